/-! THE CLASS, 5: said, kinds, tell, ask, deep, sparrow, frost, digest -/
set_option maxHeartbeats 4000000 in
set_option maxRecDepth 100000 in
theorem ct_X7_fitsSeen {l : Launch} {w : Kw} (hw : wOk w) {x : Nat} (hC : shC w x) (a1 : Int32) (a2 : Int32) (h : xI) (g : xJ) (hI : cOk h x) : Ct l w yX7_fitsSeen cX7_fitsSeen 6 (some .boolean) 2 46 [.ref (wA w (x)), .int (a1), .int (a2)] h g (pI h g) := by
  refine Ct_of (ls := [some (.ref (wA w (x))), some (.int (a1)), some (.int (a2)), none, none, none]) (by decide) hw (Nat.le_of_ble_eq_true rfl) rfl (fun k hkl C => ?_)
  have C : Cx k w cX7_fitsSeen RX7 6 (some .boolean) 2 46 := C
  have D := dtX7_fitsSeen
  subst hkl
  have hC0 := hC
  obtain ⟨hxn, hsx, hT, hsi, hTa, hTb, hsk, hNs, hY, hX, hsv⟩ := hC
  have hY2 := hY.1
  have hX2 := hX.1
  have hI0 := hI
  obtain ⟨⟨⟨c0, hc0, hat⟩, hpa, ⟨ns, hns, hse⟩, ⟨nm, hnm, hma⟩⟩, -, -, ⟨nt, hnt, htx⟩, ⟨ct, hct, hatx⟩⟩ := hI
  have hI := hI0
  refine X_iconst (v := nI (0)) C (D (0, .iconst 0, 1) (mg 0 rfl)) (by decide) ?_
  refine X_istore_n (ls' := [some (.ref (wA w (x))), some (.int (a1)), some (.int (a2)), some (.int (nI (0))), none, none]) C 3 (D (1, .istore_n 3, 1) (mg 1 rfl)) rfl (Nat.le_of_ble_eq_true rfl) rfl ?_
  have lp2 : ∀ (nn2 : Nat) (j : Nat), (j ≤ ns) → 6 - j ≤ nn2 → X k w (Zq k w (pI h g)) 2 [some (.ref (wA w (x))), some (.int (a1)), some (.int (a2)), some (.int (nI (j))), none, none] [] h g := by
    intro nn2
    induction nn2 with
    | zero => intro j hc2_0 hz; exact absurd hz (by omega)
    | succ nn2 ih2 =>
      intro j hc2_0 hz2
      refine X_iload_n C 3 (D (2, .iload_n 3, 1) (mg 2 rfl)) rfl rfl ?_
      refine X_aload_n C 0 (D (3, .aload_n 0, 1) (mg 3 rfl)) rfl rfl ?_
      refine X_get (v := .ref (wA w (x + 1))) C (x) 0 (by omega) hsx rfl rfl (by decide) inX7 fX7_10 rfl (D (4, .getfield 10, 3) (mg 4 rfl)) rfl ?_
      refine X_get (v := .int (h (x + 1) 4)) C (x + 1) 4 (by omega) hT.2.1 rfl rfl (by decide) inX4 fX7_185 rfl (D (7, .getfield 185, 3) (mg 5 rfl)) rfl ?_
      refine X_ti (y := nI (ns)) (hse) ?_
      refine X_icmp_ge (tgt := 87) C (D (10, .if_icmp .ge 77, 3) (mg 6 rfl)) (by decide) (fun q1 => ?_) (fun q1 => ?_)
      · skip
        have q1 : (j) ≥ (ns) := by have z := (nI_leI (a := (ns)) (b := (j)) (by omega) (by omega)).mp q1; omega
        refine X_iconst (v := nI (1)) C (D (87, .iconst 1, 1) (mg 48 rfl)) (by decide) ?_
        exact X_zret C (D (88, .ireturn, 1) (mg 49 rfl)) rfl ⟨⟨_, rfl⟩, rfl, rfl⟩
      · skip
        have q1 : (j) < (ns) := by have z : ¬ ((ns) ≤ (j)) := fun u => q1 ((nI_leI (a := (ns)) (b := (j)) (by omega) (by omega)).mpr u); omega
        refine X_iload_n C 3 (D (13, .iload_n 3, 1) (mg 7 rfl)) rfl rfl ?_
        refine X_iconst (v := nI (4)) C (D (14, .iconst 4, 1) (mg 8 rfl)) (by decide) ?_
        refine X_imul C (D (15, .imul, 1) (mg 9 rfl)) ?_
        refine X_ti (y := nI ((j) * (4))) (pk_mul (j) (4)) ?_
        refine X_istore (ls' := [some (.ref (wA w (x))), some (.int (a1)), some (.int (a2)), some (.int (nI (j))), some (.int (nI ((j) * (4)))), none]) C (D (16, .istore 4, 2) (mg 10 rfl)) (Nat.le_of_ble_eq_true rfl) rfl ?_
        refine X_iload_n C 1 (D (18, .iload_n 1, 1) (mg 11 rfl)) rfl rfl ?_
        refine X_aload_n C 0 (D (19, .aload_n 0, 1) (mg 12 rfl)) rfl rfl ?_
        refine X_get (v := .ref (wA w (x + 1))) C (x) 0 (by omega) hsx rfl rfl (by decide) inX7 fX7_10 rfl (D (20, .getfield 10, 3) (mg 13 rfl)) rfl ?_
        refine X_get (v := .ref (wA w (x + 7))) C (x + 1) 2 (by omega) hT.2.1 rfl rfl (by decide) inX4 fX7_188 rfl (D (23, .getfield 188, 3) (mg 14 rfl)) rfl ?_
        refine X_iload C (D (26, .iload 4, 2) (mg 15 rfl)) rfl ?_
        refine X_iconst (v := nI (1)) C (D (28, .iconst 1, 1) (mg 16 rfl)) (by decide) ?_
        refine X_iadd C (D (29, .iadd, 1) (mg 17 rfl)) ?_
        refine X_ti (y := nI ((j) * (4) + 1)) (nI_add ((j) * (4)) (1)) ?_
        refine X_iald (v := h (x + 7) ((j) * (4) + 1)) C (x + 7) (by omega) hT.2.2.2.2.1 (vp_in_nI (by omega) (by omega)) (D (30, .iaload, 1) (mg 18 rfl)) (by rw [nI_clamp (by omega)]) ?_
        refine X_aload_n C 0 (D (31, .aload_n 0, 1) (mg 19 rfl)) rfl rfl ?_
        refine X_get (v := .ref (wA w (x + 1))) C (x) 0 (by omega) hsx rfl rfl (by decide) inX7 fX7_10 rfl (D (32, .getfield 10, 3) (mg 20 rfl)) rfl ?_
        refine X_get (v := .ref (wA w (x + 7))) C (x + 1) 2 (by omega) hT.2.1 rfl rfl (by decide) inX4 fX7_188 rfl (D (35, .getfield 188, 3) (mg 21 rfl)) rfl ?_
        refine X_iload C (D (38, .iload 4, 2) (mg 22 rfl)) rfl ?_
        refine X_iconst (v := nI (2)) C (D (40, .iconst 2, 1) (mg 23 rfl)) (by decide) ?_
        refine X_iadd C (D (41, .iadd, 1) (mg 24 rfl)) ?_
        refine X_ti (y := nI ((j) * (4) + 2)) (nI_add ((j) * (4)) (2)) ?_
        refine X_iald (v := h (x + 7) ((j) * (4) + 2)) C (x + 7) (by omega) hT.2.2.2.2.1 (vp_in_nI (by omega) (by omega)) (D (42, .iaload, 1) (mg 25 rfl)) (by rw [nI_clamp (by omega)]) ?_
        refine X_cS (As := [.int (a1), .int (h (x + 7) ((j) * (4) + 1)), .int (h (x + 7) ((j) * (4) + 2))]) (st := []) C (post := _) (ct_X3_stands hw (a1) (h (x + 7) ((j) * (4) + 1)) (h (x + 7) ((j) * (4) + 2)) h g) kX7_194 (by decide) (by decide) rfl rfl (Nat.le_of_ble_eq_true rfl) (D (43, .invokestatic 194, 3) (mg 26 rfl)) rfl (fun v4 H2 G3 hv4 => ?_)
        obtain ⟨rfl, rfl, rfl⟩ := hv4
        show X k w _ 46 [some (.ref (wA w (x))), some (.int (a1)), some (.int (a2)), some (.int (nI (j))), some (.int (nI ((j) * (4)))), none] [.int (hiC (a1) (h (x + 7) ((j) * (4) + 1)) (h (x + 7) ((j) * (4) + 2)))] h g
        refine X_istore (ls' := [some (.ref (wA w (x))), some (.int (a1)), some (.int (a2)), some (.int (nI (j))), some (.int (nI ((j) * (4)))), some (.int (hiC (a1) (h (x + 7) ((j) * (4) + 1)) (h (x + 7) ((j) * (4) + 2))))]) C (D (46, .istore 5, 2) (mg 27 rfl)) (Nat.le_of_ble_eq_true rfl) rfl ?_
        refine X_aload_n C 0 (D (48, .aload_n 0, 1) (mg 28 rfl)) rfl rfl ?_
        refine X_get (v := .ref (wA w (x + 1))) C (x) 0 (by omega) hsx rfl rfl (by decide) inX7 fX7_10 rfl (D (49, .getfield 10, 3) (mg 29 rfl)) rfl ?_
        refine X_get (v := .ref (wA w (x + 7))) C (x + 1) 2 (by omega) hT.2.1 rfl rfl (by decide) inX4 fX7_188 rfl (D (52, .getfield 188, 3) (mg 30 rfl)) rfl ?_
        refine X_iload C (D (55, .iload 4, 2) (mg 31 rfl)) rfl ?_
        refine X_iald (v := h (x + 7) ((j) * (4))) C (x + 7) (by omega) hT.2.2.2.2.1 (vp_in_nI (by omega) (by omega)) (D (57, .iaload, 1) (mg 32 rfl)) (by rw [nI_clamp (by omega)]) ?_
        refine X_iload_n C 2 (D (58, .iload_n 2, 1) (mg 33 rfl)) rfl rfl ?_
        refine X_icmp_ne (tgt := 81) C (D (59, .if_icmp .ne 22, 3) (mg 34 rfl)) (by decide) (fun q5 => ?_) (fun q5 => ?_)
        · skip
          refine X_iinc (v := nI (j + 1)) (ls' := [some (.ref (wA w (x))), some (.int (a1)), some (.int (a2)), some (.int (nI (j + 1))), some (.int (nI ((j) * (4)))), some (.int (hiC (a1) (h (x + 7) ((j) * (4) + 1)) (h (x + 7) ((j) * (4) + 2))))]) C (D (81, .iinc 3 1, 3) (mg 46 rfl)) rfl (nI_add (j) 1) rfl ?_
          refine X_goto (tgt := 2) C (D (84, .goto (-82), 3) (mg 47 rfl)) (by decide) ?_
          refine X_los (ls' := [some (.ref (wA w (x))), some (.int (a1)), some (.int (a2)), some (.int (nI (j + 1))), none, none]) (by simp [lsub]) ?_
          refine X_eq (ls' := [some (.ref (wA w (x))), some (.int (a1)), some (.int (a2)), some (.int (nI (j + 1))), none, none]) (st' := []) (h' := h) (g' := g) rfl rfl rfl rfl ?_
          exact ih2 (j + 1) (by omega) (by omega)
        · skip
          refine X_iload C (D (62, .iload 5, 2) (mg 35 rfl)) rfl ?_
          refine X_aload_n C 0 (D (64, .aload_n 0, 1) (mg 36 rfl)) rfl rfl ?_
          refine X_get (v := .ref (wA w (x + 1))) C (x) 0 (by omega) hsx rfl rfl (by decide) inX7 fX7_10 rfl (D (65, .getfield 10, 3) (mg 37 rfl)) rfl ?_
          refine X_get (v := .ref (wA w (x + 7))) C (x + 1) 2 (by omega) hT.2.1 rfl rfl (by decide) inX4 fX7_188 rfl (D (68, .getfield 188, 3) (mg 38 rfl)) rfl ?_
          refine X_iload C (D (71, .iload 4, 2) (mg 39 rfl)) rfl ?_
          refine X_iconst (v := nI (3)) C (D (73, .iconst 3, 1) (mg 40 rfl)) (by decide) ?_
          refine X_iadd C (D (74, .iadd, 1) (mg 41 rfl)) ?_
          refine X_ti (y := nI ((j) * (4) + 3)) (nI_add ((j) * (4)) (3)) ?_
          refine X_iald (v := h (x + 7) ((j) * (4) + 3)) C (x + 7) (by omega) hT.2.2.2.2.1 (vp_in_nI (by omega) (by omega)) (D (75, .iaload, 1) (mg 42 rfl)) (by rw [nI_clamp (by omega)]) ?_
          refine X_icmp_eq (tgt := 81) C (D (76, .if_icmp .eq 5, 3) (mg 43 rfl)) (by decide) (fun q6 => ?_) (fun q6 => ?_)
          · skip
            refine X_iinc (v := nI (j + 1)) (ls' := [some (.ref (wA w (x))), some (.int (a1)), some (.int (a2)), some (.int (nI (j + 1))), some (.int (nI ((j) * (4)))), some (.int (hiC (a1) (h (x + 7) ((j) * (4) + 1)) (h (x + 7) ((j) * (4) + 2))))]) C (D (81, .iinc 3 1, 3) (mg 46 rfl)) rfl (nI_add (j) 1) rfl ?_
            refine X_goto (tgt := 2) C (D (84, .goto (-82), 3) (mg 47 rfl)) (by decide) ?_
            refine X_los (ls' := [some (.ref (wA w (x))), some (.int (a1)), some (.int (a2)), some (.int (nI (j + 1))), none, none]) (by simp [lsub]) ?_
            refine X_eq (ls' := [some (.ref (wA w (x))), some (.int (a1)), some (.int (a2)), some (.int (nI (j + 1))), none, none]) (st' := []) (h' := h) (g' := g) rfl rfl rfl rfl ?_
            exact ih2 (j + 1) (by omega) (by omega)
          · skip
            refine X_iconst (v := nI (0)) C (D (79, .iconst 0, 1) (mg 44 rfl)) (by decide) ?_
            exact X_zret C (D (80, .ireturn, 1) (mg 45 rfl)) rfl ⟨⟨_, rfl⟩, rfl, rfl⟩
  refine X_eq (ls' := [some (.ref (wA w (x))), some (.int (a1)), some (.int (a2)), some (.int (nI (0))), none, none]) (st' := []) (h' := h) (g' := g) rfl rfl rfl rfl ?_
  exact lp2 _ (0) (by omega) (Nat.le_refl _)
set_option maxHeartbeats 4000000 in
set_option maxRecDepth 100000 in
theorem ct_X7_sayingsFor {l : Launch} {w : Kw} (hw : wOk w) {x : Nat} (hC : shC w x) (a1 : Int32) (h : xI) (g : xJ) (hI : cOk h x) : Ct l w yX7_sayingsFor cX7_sayingsFor 4 (some .int) 3 71 [.ref (wA w (x)), .int (a1)] h g (pI h g) := by
  refine Ct_of (ls := [some (.ref (wA w (x))), some (.int (a1)), none, none]) (by decide) hw (Nat.le_of_ble_eq_true rfl) rfl (fun k hkl C => ?_)
  have C : Cx k w cX7_sayingsFor RX7 4 (some .int) 3 71 := C
  have D := dtX7_sayingsFor
  subst hkl
  have hC0 := hC
  obtain ⟨hxn, hsx, hT, hsi, hTa, hTb, hsk, hNs, hY, hX, hsv⟩ := hC
  have hY2 := hY.1
  have hX2 := hX.1
  have hI0 := hI
  obtain ⟨⟨⟨c0, hc0, hat⟩, hpa, ⟨ns, hns, hse⟩, ⟨nm, hnm, hma⟩⟩, -, -, ⟨nt, hnt, htx⟩, ⟨ct, hct, hatx⟩⟩ := hI
  have hI := hI0
  refine X_iconst (v := nI (0)) C (D (0, .iconst 0, 1) (mg 0 rfl)) (by decide) ?_
  refine X_istore_n (ls' := [some (.ref (wA w (x))), some (.int (a1)), some (.int (nI (0))), none]) C 2 (D (1, .istore_n 2, 1) (mg 1 rfl)) rfl (Nat.le_of_ble_eq_true rfl) rfl ?_
  refine X_iconst (v := nI (0)) C (D (2, .iconst 0, 1) (mg 2 rfl)) (by decide) ?_
  refine X_istore_n (ls' := [some (.ref (wA w (x))), some (.int (a1)), some (.int (nI (0))), some (.int (nI (0)))]) C 3 (D (3, .istore_n 3, 1) (mg 3 rfl)) rfl (Nat.le_of_ble_eq_true rfl) rfl ?_
  have lp4 : ∀ (nn4 : Nat) (j : Nat) (b : Int32), (j ≤ 6) → 7 - j ≤ nn4 → X k w (Zq k w (pI h g)) 4 [some (.ref (wA w (x))), some (.int (a1)), some (.int (b)), some (.int (nI (j)))] [] h g := by
    intro nn4
    induction nn4 with
    | zero => intro j b hc4_0 hz; exact absurd hz (by omega)
    | succ nn4 ih4 =>
      intro j b hc4_0 hz4
      refine X_iload_n C 3 (D (4, .iload_n 3, 1) (mg 4 rfl)) rfl rfl ?_
      refine X_bipush (v := nI (6)) C (D (5, .bipush 6, 2) (mg 5 rfl)) (by decide) ?_
      refine X_icmp_ge (tgt := 31) C (D (7, .if_icmp .ge 24, 3) (mg 6 rfl)) (by decide) (fun q1 => ?_) (fun q1 => ?_)
      · skip
        have q1 : (j) ≥ (6) := by have z := (nI_leI (a := (6)) (b := (j)) (by omega) (by omega)).mp q1; omega
        refine X_iload_n C 2 (D (31, .iload_n 2, 1) (mg 20 rfl)) rfl rfl ?_
        exact X_iret C (D (32, .ireturn, 1) (mg 21 rfl)) ⟨⟨_, rfl⟩, rfl, rfl⟩
      · skip
        have q1 : (j) < (6) := by have z : ¬ ((6) ≤ (j)) := fun u => q1 ((nI_leI (a := (6)) (b := (j)) (by omega) (by omega)).mpr u); omega
        refine X_aload_n C 0 (D (10, .aload_n 0, 1) (mg 7 rfl)) rfl rfl ?_
        refine X_iload_n C 3 (D (11, .iload_n 3, 1) (mg 8 rfl)) rfl rfl ?_
        refine X_iload_n C 1 (D (12, .iload_n 1, 1) (mg 9 rfl)) rfl rfl ?_
        refine X_cV (As := [.int (nI (j)), .int (a1)]) (st := []) C (post := _) (x) (by omega) hsx rfl (ct_X7_fitsSeen hw hC0 (nI (j)) (a1) h g hI) kX7_269 (by decide) (by decide) rfl rfl (Nat.le_of_ble_eq_true rfl) (D (13, .invokevirtual 269, 3) (mg 10 rfl)) rfl (fun v4 H2 G3 hv4 => ?_)
        obtain ⟨⟨y5, rfl⟩, rfl, rfl⟩ := hv4
        show X k w _ 16 [some (.ref (wA w (x))), some (.int (a1)), some (.int (b)), some (.int (nI (j)))] [.int (y5)] h g
        refine X_if_eq (tgt := 25) C (D (16, .ifCond .eq 9, 3) (mg 11 rfl)) (by decide) (fun q6 => ?_) (fun q6 => ?_)
        · skip
          refine X_iinc (v := nI (j + 1)) (ls' := [some (.ref (wA w (x))), some (.int (a1)), some (.int (b)), some (.int (nI (j + 1)))]) C (D (25, .iinc 3 1, 3) (mg 18 rfl)) rfl (nI_add (j) 1) rfl ?_
          refine X_goto (tgt := 4) C (D (28, .goto (-24), 3) (mg 19 rfl)) (by decide) ?_
          refine X_eq (ls' := [some (.ref (wA w (x))), some (.int (a1)), some (.int (b)), some (.int (nI (j + 1)))]) (st' := []) (h' := h) (g' := g) rfl rfl rfl rfl ?_
          exact ih4 (j + 1) (b) (by omega) (by omega)
        · skip
          refine X_iload_n C 2 (D (19, .iload_n 2, 1) (mg 12 rfl)) rfl rfl ?_
          refine X_iconst (v := nI (1)) C (D (20, .iconst 1, 1) (mg 13 rfl)) (by decide) ?_
          refine X_iload_n C 3 (D (21, .iload_n 3, 1) (mg 14 rfl)) rfl rfl ?_
          refine X_ishl C (D (22, .ishl, 1) (mg 15 rfl)) ?_
          refine X_ior C (D (23, .ior, 1) (mg 16 rfl)) ?_
          refine X_istore_n (ls' := [some (.ref (wA w (x))), some (.int (a1)), some (.int (b ||| ((nI (1)) <<< ((nI (j)) &&& 31)))), some (.int (nI (j)))]) C 2 (D (24, .istore_n 2, 1) (mg 17 rfl)) rfl (Nat.le_of_ble_eq_true rfl) rfl ?_
          refine X_iinc (v := nI (j + 1)) (ls' := [some (.ref (wA w (x))), some (.int (a1)), some (.int (b ||| ((nI (1)) <<< ((nI (j)) &&& 31)))), some (.int (nI (j + 1)))]) C (D (25, .iinc 3 1, 3) (mg 18 rfl)) rfl (nI_add (j) 1) rfl ?_
          refine X_goto (tgt := 4) C (D (28, .goto (-24), 3) (mg 19 rfl)) (by decide) ?_
          refine X_eq (ls' := [some (.ref (wA w (x))), some (.int (a1)), some (.int (b ||| ((nI (1)) <<< ((nI (j)) &&& 31)))), some (.int (nI (j + 1)))]) (st' := []) (h' := h) (g' := g) rfl rfl rfl rfl ?_
          exact ih4 (j + 1) (b ||| ((nI (1)) <<< ((nI (j)) &&& 31))) (by omega) (by omega)
  refine X_eq (ls' := [some (.ref (wA w (x))), some (.int (a1)), some (.int (nI (0))), some (.int (nI (0)))]) (st' := []) (h' := h) (g' := g) rfl rfl rfl rfl ?_
  exact lp4 _ (0) (nI (0)) (by omega) (Nat.le_refl _)
set_option maxHeartbeats 4000000 in
set_option maxRecDepth 100000 in
theorem ct_X7_said {l : Launch} {w : Kw} (hw : wOk w) {x : Nat} (hC : shC w x) (a1 : Int32) (h : xI) (g : xJ) (hI : cOk h x) : Ct l w yX7_said cX7_said 2 (some .int) 4 94 [.ref (wA w (x)), .int (a1)] h g (pQ (wI x h)) := by
  refine Ct_of (ls := [some (.ref (wA w (x))), some (.int (a1))]) (by decide) hw (Nat.le_of_ble_eq_true rfl) rfl (fun k hkl C => ?_)
  have C : Cx k w cX7_said RX7 2 (some .int) 4 94 := C
  have D := dtX7_said
  subst hkl
  have hC0 := hC
  obtain ⟨hxn, hsx, hT, hsi, hTa, hTb, hsk, hNs, hY, hX, hsv⟩ := hC
  have hY2 := hY.1
  have hX2 := hX.1
  have hI0 := hI
  obtain ⟨⟨⟨c0, hc0, hat⟩, hpa, ⟨ns, hns, hse⟩, ⟨nm, hnm, hma⟩⟩, -, -, ⟨nt, hnt, htx⟩, ⟨ct, hct, hatx⟩⟩ := hI
  have hI := hI0
  refine X_iload_n C 1 (D (0, .iload_n 1, 1) (mg 0 rfl)) rfl rfl ?_
  refine X_bipush (v := nI (25)) C (D (1, .bipush 25, 2) (mg 1 rfl)) (by decide) ?_
  refine X_cS (As := [.int (a1), .int (nI (25))]) (st := []) C (post := _) (ct_X7_isBelow hw (a1) (B := 25) (by decide) h g) kX7_53 (by decide) (by decide) rfl rfl (Nat.le_of_ble_eq_true rfl) (D (3, .invokestatic 53, 3) (mg 2 rfl)) rfl (fun v3 H1 G2 hv3 => ?_)
  obtain ⟨rfl, rfl, rfl⟩ := hv3
  show X k w _ 6 [some (.ref (wA w (x))), some (.int (a1))] [.int (if 0 ≤ (a1).toInt ∧ (a1).toInt < ((25 : Nat) : Int) then 1 else 0)] h g
  refine X_if_ne (tgt := 14) C (D (6, .ifCond .ne 8, 3) (mg 3 rfl)) (by decide) (fun q4 => ?_) (fun q4 => ?_)
  · skip
    have q4 : (0 ≤ (a1).toInt ∧ (a1).toInt < ((25 : Nat) : Int)) := bz1.mp q4
    refine X_aload_n C 0 (D (14, .aload_n 0, 1) (mg 7 rfl)) rfl rfl ?_
    refine X_iload_n C 1 (D (15, .iload_n 1, 1) (mg 8 rfl)) rfl rfl ?_
    refine X_cV (As := [.int (a1)]) (st := []) C (post := _) (x) (by omega) hsx rfl (ct_X7_sayingsFor hw hC0 (a1) h g hI) kX7_191 (by decide) (by decide) rfl rfl (Nat.le_of_ble_eq_true rfl) (D (16, .invokevirtual 191, 3) (mg 9 rfl)) rfl (fun v7 H5 G6 hv7 => ?_)
    obtain ⟨⟨y8, rfl⟩, rfl, rfl⟩ := hv7
    show X k w _ 19 [some (.ref (wA w (x))), some (.int (a1))] [.int (y8)] h g
    exact X_iret C (D (19, .ireturn, 1) (mg 10 rfl)) ⟨⟨_, rfl⟩, (wI_r hI)⟩
  · skip
    have q4 : ¬ (0 ≤ (a1).toInt ∧ (a1).toInt < ((25 : Nat) : Int)) := bz0.mp q4
    refine X_aload_n C 0 (D (9, .aload_n 0, 1) (mg 4 rfl)) rfl rfl ?_
    refine X_cV (As := []) (st := []) C (post := _) (x) (by omega) hsx rfl (ct_X7_refuseBad hw hC0 h g) kX7_57 (by decide) (by decide) rfl rfl (Nat.le_of_ble_eq_true rfl) (D (10, .invokevirtual 57, 3) (mg 5 rfl)) rfl (fun v11 H9 G10 hv11 => ?_)
    obtain ⟨rfl, rfl, rfl⟩ := hv11
    show X k w _ 13 [some (.ref (wA w (x))), some (.int (a1))] [.int ((-2 : Int32))] (rcH h (x) 9) g
    exact X_iret C (D (13, .ireturn, 1) (mg 6 rfl)) ⟨⟨_, rfl⟩, ⟨fun q i z0 => by have z := z0; unfold SW at z; rw [rcH_ne _ _ _ (by omega)], ⟨c0, (by omega), (((rcH_ne _ _ _ (by omega))).trans hat)⟩, (paOk_k (fun q i z => by rw [rcH_ne _ _ _ (by omega)]) hpa)⟩⟩
set_option maxHeartbeats 4000000 in
set_option maxRecDepth 100000 in
theorem ct_X7_fitsMarks {l : Launch} {w : Kw} (hw : wOk w) {x : Nat} (hC : shC w x) (a1 : Int32) (h : xI) (g : xJ) (hI : cOk h x) : Ct l w yX7_fitsMarks cX7_fitsMarks 4 (some .boolean) 1 25 [.ref (wA w (x)), .int (a1)] h g (pI h g) := by
  refine Ct_of (ls := [some (.ref (wA w (x))), some (.int (a1)), none, none]) (by decide) hw (Nat.le_of_ble_eq_true rfl) rfl (fun k hkl C => ?_)
  have C : Cx k w cX7_fitsMarks RX7 4 (some .boolean) 1 25 := C
  have D := dtX7_fitsMarks
  subst hkl
  have hC0 := hC
  obtain ⟨hxn, hsx, hT, hsi, hTa, hTb, hsk, hNs, hY, hX, hsv⟩ := hC
  have hY2 := hY.1
  have hX2 := hX.1
  have hI0 := hI
  obtain ⟨⟨⟨c0, hc0, hat⟩, hpa, ⟨ns, hns, hse⟩, ⟨nm, hnm, hma⟩⟩, -, -, ⟨nt, hnt, htx⟩, ⟨ct, hct, hatx⟩⟩ := hI
  have hI := hI0
  refine X_iconst (v := nI (0)) C (D (0, .iconst 0, 1) (mg 0 rfl)) (by decide) ?_
  refine X_istore_n (ls' := [some (.ref (wA w (x))), some (.int (a1)), some (.int (nI (0))), none]) C 2 (D (1, .istore_n 2, 1) (mg 1 rfl)) rfl (Nat.le_of_ble_eq_true rfl) rfl ?_
  have lp2 : ∀ (nn2 : Nat) (j : Nat), (j ≤ nm) → 7 - j ≤ nn2 → X k w (Zq k w (pI h g)) 2 [some (.ref (wA w (x))), some (.int (a1)), some (.int (nI (j))), none] [] h g := by
    intro nn2
    induction nn2 with
    | zero => intro j hc2_0 hz; exact absurd hz (by omega)
    | succ nn2 ih2 =>
      intro j hc2_0 hz2
      refine X_iload_n C 2 (D (2, .iload_n 2, 1) (mg 2 rfl)) rfl rfl ?_
      refine X_aload_n C 0 (D (3, .aload_n 0, 1) (mg 3 rfl)) rfl rfl ?_
      refine X_get (v := .ref (wA w (x + 1))) C (x) 0 (by omega) hsx rfl rfl (by decide) inX7 fX7_10 rfl (D (4, .getfield 10, 3) (mg 4 rfl)) rfl ?_
      refine X_get (v := .int (h (x + 1) 5)) C (x + 1) 5 (by omega) hT.2.1 rfl rfl (by decide) inX4 fX7_203 rfl (D (7, .getfield 203, 3) (mg 5 rfl)) rfl ?_
      refine X_ti (y := nI (nm)) (hma) ?_
      refine X_icmp_ge (tgt := 63) C (D (10, .if_icmp .ge 53, 3) (mg 6 rfl)) (by decide) (fun q1 => ?_) (fun q1 => ?_)
      · skip
        have q1 : (j) ≥ (nm) := by have z := (nI_leI (a := (nm)) (b := (j)) (by omega) (by omega)).mp q1; omega
        refine X_iconst (v := nI (1)) C (D (63, .iconst 1, 1) (mg 37 rfl)) (by decide) ?_
        exact X_zret C (D (64, .ireturn, 1) (mg 38 rfl)) rfl ⟨⟨_, rfl⟩, rfl, rfl⟩
      · skip
        have q1 : (j) < (nm) := by have z : ¬ ((nm) ≤ (j)) := fun u => q1 ((nI_leI (a := (nm)) (b := (j)) (by omega) (by omega)).mpr u); omega
        refine X_iload_n C 2 (D (13, .iload_n 2, 1) (mg 7 rfl)) rfl rfl ?_
        refine X_iconst (v := nI (3)) C (D (14, .iconst 3, 1) (mg 8 rfl)) (by decide) ?_
        refine X_imul C (D (15, .imul, 1) (mg 9 rfl)) ?_
        refine X_ti (y := nI ((j) * (3))) (pk_mul (j) (3)) ?_
        refine X_istore_n (ls' := [some (.ref (wA w (x))), some (.int (a1)), some (.int (nI (j))), some (.int (nI ((j) * (3))))]) C 3 (D (16, .istore_n 3, 1) (mg 10 rfl)) rfl (Nat.le_of_ble_eq_true rfl) rfl ?_
        refine X_iload_n C 1 (D (17, .iload_n 1, 1) (mg 11 rfl)) rfl rfl ?_
        refine X_aload_n C 0 (D (18, .aload_n 0, 1) (mg 12 rfl)) rfl rfl ?_
        refine X_get (v := .ref (wA w (x + 1))) C (x) 0 (by omega) hsx rfl rfl (by decide) inX7 fX7_10 rfl (D (19, .getfield 10, 3) (mg 13 rfl)) rfl ?_
        refine X_get (v := .ref (wA w (x + 8))) C (x + 1) 3 (by omega) hT.2.1 rfl rfl (by decide) inX4 fX7_206 rfl (D (22, .getfield 206, 3) (mg 14 rfl)) rfl ?_
        refine X_iload_n C 3 (D (25, .iload_n 3, 1) (mg 15 rfl)) rfl rfl ?_
        refine X_iconst (v := nI (1)) C (D (26, .iconst 1, 1) (mg 16 rfl)) (by decide) ?_
        refine X_iadd C (D (27, .iadd, 1) (mg 17 rfl)) ?_
        refine X_ti (y := nI ((j) * (3) + 1)) (nI_add ((j) * (3)) (1)) ?_
        refine X_iald (v := h (x + 8) ((j) * (3) + 1)) C (x + 8) (by omega) hT.2.2.2.2.2 (vp_in_nI (by omega) (by omega)) (D (28, .iaload, 1) (mg 18 rfl)) (by rw [nI_clamp (by omega)]) ?_
        refine X_aload_n C 0 (D (29, .aload_n 0, 1) (mg 19 rfl)) rfl rfl ?_
        refine X_get (v := .ref (wA w (x + 1))) C (x) 0 (by omega) hsx rfl rfl (by decide) inX7 fX7_10 rfl (D (30, .getfield 10, 3) (mg 20 rfl)) rfl ?_
        refine X_get (v := .ref (wA w (x + 8))) C (x + 1) 3 (by omega) hT.2.1 rfl rfl (by decide) inX4 fX7_206 rfl (D (33, .getfield 206, 3) (mg 21 rfl)) rfl ?_
        refine X_iload_n C 3 (D (36, .iload_n 3, 1) (mg 22 rfl)) rfl rfl ?_
        refine X_iald (v := h (x + 8) ((j) * (3))) C (x + 8) (by omega) hT.2.2.2.2.2 (vp_in_nI (by omega) (by omega)) (D (37, .iaload, 1) (mg 23 rfl)) (by rw [nI_clamp (by omega)]) ?_
        refine X_cS (As := [.int (a1), .int (h (x + 8) ((j) * (3) + 1)), .int (h (x + 8) ((j) * (3)))]) (st := []) C (post := _) (ct_X0_dragsBy hw (a1) (h (x + 8) ((j) * (3) + 1)) (h (x + 8) ((j) * (3))) h g) kX7_212 (by decide) (by decide) rfl rfl (Nat.le_of_ble_eq_true rfl) (D (38, .invokestatic 212, 3) (mg 24 rfl)) rfl (fun v4 H2 G3 hv4 => ?_)
        obtain ⟨rfl, rfl, rfl⟩ := hv4
        show X k w _ 41 [some (.ref (wA w (x))), some (.int (a1)), some (.int (nI (j))), some (.int (nI ((j) * (3))))] [.int (deC (a1) (h (x + 8) ((j) * (3) + 1)) (h (x + 8) ((j) * (3))))] h g
        refine X_aload_n C 0 (D (41, .aload_n 0, 1) (mg 25 rfl)) rfl rfl ?_
        refine X_get (v := .ref (wA w (x + 1))) C (x) 0 (by omega) hsx rfl rfl (by decide) inX7 fX7_10 rfl (D (42, .getfield 10, 3) (mg 26 rfl)) rfl ?_
        refine X_get (v := .ref (wA w (x + 8))) C (x + 1) 3 (by omega) hT.2.1 rfl rfl (by decide) inX4 fX7_206 rfl (D (45, .getfield 206, 3) (mg 27 rfl)) rfl ?_
        refine X_iload_n C 3 (D (48, .iload_n 3, 1) (mg 28 rfl)) rfl rfl ?_
        refine X_iconst (v := nI (2)) C (D (49, .iconst 2, 1) (mg 29 rfl)) (by decide) ?_
        refine X_iadd C (D (50, .iadd, 1) (mg 30 rfl)) ?_
        refine X_ti (y := nI ((j) * (3) + 2)) (nI_add ((j) * (3)) (2)) ?_
        refine X_iald (v := h (x + 8) ((j) * (3) + 2)) C (x + 8) (by omega) hT.2.2.2.2.2 (vp_in_nI (by omega) (by omega)) (D (51, .iaload, 1) (mg 31 rfl)) (by rw [nI_clamp (by omega)]) ?_
        refine X_icmp_eq (tgt := 57) C (D (52, .if_icmp .eq 5, 3) (mg 32 rfl)) (by decide) (fun q5 => ?_) (fun q5 => ?_)
        · skip
          refine X_iinc (v := nI (j + 1)) (ls' := [some (.ref (wA w (x))), some (.int (a1)), some (.int (nI (j + 1))), some (.int (nI ((j) * (3))))]) C (D (57, .iinc 2 1, 3) (mg 35 rfl)) rfl (nI_add (j) 1) rfl ?_
          refine X_goto (tgt := 2) C (D (60, .goto (-58), 3) (mg 36 rfl)) (by decide) ?_
          refine X_los (ls' := [some (.ref (wA w (x))), some (.int (a1)), some (.int (nI (j + 1))), none]) (by simp [lsub]) ?_
          refine X_eq (ls' := [some (.ref (wA w (x))), some (.int (a1)), some (.int (nI (j + 1))), none]) (st' := []) (h' := h) (g' := g) rfl rfl rfl rfl ?_
          exact ih2 (j + 1) (by omega) (by omega)
        · skip
          refine X_iconst (v := nI (0)) C (D (55, .iconst 0, 1) (mg 33 rfl)) (by decide) ?_
          exact X_zret C (D (56, .ireturn, 1) (mg 34 rfl)) rfl ⟨⟨_, rfl⟩, rfl, rfl⟩
  refine X_eq (ls' := [some (.ref (wA w (x))), some (.int (a1)), some (.int (nI (0))), none]) (st' := []) (h' := h) (g' := g) rfl rfl rfl rfl ?_
  exact lp2 _ (0) (by omega) (Nat.le_refl _)
set_option maxHeartbeats 4000000 in
set_option maxRecDepth 100000 in
theorem ct_X7_harrowsThatFit {l : Launch} {w : Kw} (hw : wOk w) {x : Nat} (hC : shC w x) (h : xI) (g : xJ) (hI : cOk h x) : Ct l w yX7_harrowsThatFit cX7_harrowsThatFit 3 (some .int) 2 48 [.ref (wA w (x))] h g (pI h g) := by
  refine Ct_of (ls := [some (.ref (wA w (x))), none, none]) (by decide) hw (Nat.le_of_ble_eq_true rfl) rfl (fun k hkl C => ?_)
  have C : Cx k w cX7_harrowsThatFit RX7 3 (some .int) 2 48 := C
  have D := dtX7_harrowsThatFit
  subst hkl
  have hC0 := hC
  obtain ⟨hxn, hsx, hT, hsi, hTa, hTb, hsk, hNs, hY, hX, hsv⟩ := hC
  have hY2 := hY.1
  have hX2 := hX.1
  have hI0 := hI
  obtain ⟨⟨⟨c0, hc0, hat⟩, hpa, ⟨ns, hns, hse⟩, ⟨nm, hnm, hma⟩⟩, -, -, ⟨nt, hnt, htx⟩, ⟨ct, hct, hatx⟩⟩ := hI
  have hI := hI0
  refine X_iconst (v := nI (0)) C (D (0, .iconst 0, 1) (mg 0 rfl)) (by decide) ?_
  refine X_istore_n (ls' := [some (.ref (wA w (x))), some (.int (nI (0))), none]) C 1 (D (1, .istore_n 1, 1) (mg 1 rfl)) rfl (Nat.le_of_ble_eq_true rfl) rfl ?_
  refine X_iconst (v := nI (0)) C (D (2, .iconst 0, 1) (mg 2 rfl)) (by decide) ?_
  refine X_istore_n (ls' := [some (.ref (wA w (x))), some (.int (nI (0))), some (.int (nI (0)))]) C 2 (D (3, .istore_n 2, 1) (mg 3 rfl)) rfl (Nat.le_of_ble_eq_true rfl) rfl ?_
  have lp4 : ∀ (nn4 : Nat) (j : Nat) (b : Int32), (j ≤ 6) → 7 - j ≤ nn4 → X k w (Zq k w (pI h g)) 4 [some (.ref (wA w (x))), some (.int (b)), some (.int (nI (j)))] [] h g := by
    intro nn4
    induction nn4 with
    | zero => intro j b hc4_0 hz; exact absurd hz (by omega)
    | succ nn4 ih4 =>
      intro j b hc4_0 hz4
      refine X_iload_n C 2 (D (4, .iload_n 2, 1) (mg 4 rfl)) rfl rfl ?_
      refine X_bipush (v := nI (6)) C (D (5, .bipush 6, 2) (mg 5 rfl)) (by decide) ?_
      refine X_icmp_ge (tgt := 30) C (D (7, .if_icmp .ge 23, 3) (mg 6 rfl)) (by decide) (fun q1 => ?_) (fun q1 => ?_)
      · skip
        have q1 : (j) ≥ (6) := by have z := (nI_leI (a := (6)) (b := (j)) (by omega) (by omega)).mp q1; omega
        refine X_iload_n C 1 (D (30, .iload_n 1, 1) (mg 19 rfl)) rfl rfl ?_
        exact X_iret C (D (31, .ireturn, 1) (mg 20 rfl)) ⟨⟨_, rfl⟩, rfl, rfl⟩
      · skip
        have q1 : (j) < (6) := by have z : ¬ ((6) ≤ (j)) := fun u => q1 ((nI_leI (a := (6)) (b := (j)) (by omega) (by omega)).mpr u); omega
        refine X_aload_n C 0 (D (10, .aload_n 0, 1) (mg 7 rfl)) rfl rfl ?_
        refine X_iload_n C 2 (D (11, .iload_n 2, 1) (mg 8 rfl)) rfl rfl ?_
        refine X_cV (As := [.int (nI (j))]) (st := []) C (post := _) (x) (by omega) hsx rfl (ct_X7_fitsMarks hw hC0 (nI (j)) h g hI) kX7_272 (by decide) (by decide) rfl rfl (Nat.le_of_ble_eq_true rfl) (D (12, .invokevirtual 272, 3) (mg 9 rfl)) rfl (fun v4 H2 G3 hv4 => ?_)
        obtain ⟨⟨y5, rfl⟩, rfl, rfl⟩ := hv4
        show X k w _ 15 [some (.ref (wA w (x))), some (.int (b)), some (.int (nI (j)))] [.int (y5)] h g
        refine X_if_eq (tgt := 24) C (D (15, .ifCond .eq 9, 3) (mg 10 rfl)) (by decide) (fun q6 => ?_) (fun q6 => ?_)
        · skip
          refine X_iinc (v := nI (j + 1)) (ls' := [some (.ref (wA w (x))), some (.int (b)), some (.int (nI (j + 1)))]) C (D (24, .iinc 2 1, 3) (mg 17 rfl)) rfl (nI_add (j) 1) rfl ?_
          refine X_goto (tgt := 4) C (D (27, .goto (-23), 3) (mg 18 rfl)) (by decide) ?_
          refine X_eq (ls' := [some (.ref (wA w (x))), some (.int (b)), some (.int (nI (j + 1)))]) (st' := []) (h' := h) (g' := g) rfl rfl rfl rfl ?_
          exact ih4 (j + 1) (b) (by omega) (by omega)
        · skip
          refine X_iload_n C 1 (D (18, .iload_n 1, 1) (mg 11 rfl)) rfl rfl ?_
          refine X_iconst (v := nI (1)) C (D (19, .iconst 1, 1) (mg 12 rfl)) (by decide) ?_
          refine X_iload_n C 2 (D (20, .iload_n 2, 1) (mg 13 rfl)) rfl rfl ?_
          refine X_ishl C (D (21, .ishl, 1) (mg 14 rfl)) ?_
          refine X_ior C (D (22, .ior, 1) (mg 15 rfl)) ?_
          refine X_istore_n (ls' := [some (.ref (wA w (x))), some (.int (b ||| ((nI (1)) <<< ((nI (j)) &&& 31)))), some (.int (nI (j)))]) C 1 (D (23, .istore_n 1, 1) (mg 16 rfl)) rfl (Nat.le_of_ble_eq_true rfl) rfl ?_
          refine X_iinc (v := nI (j + 1)) (ls' := [some (.ref (wA w (x))), some (.int (b ||| ((nI (1)) <<< ((nI (j)) &&& 31)))), some (.int (nI (j + 1)))]) C (D (24, .iinc 2 1, 3) (mg 17 rfl)) rfl (nI_add (j) 1) rfl ?_
          refine X_goto (tgt := 4) C (D (27, .goto (-23), 3) (mg 18 rfl)) (by decide) ?_
          refine X_eq (ls' := [some (.ref (wA w (x))), some (.int (b ||| ((nI (1)) <<< ((nI (j)) &&& 31)))), some (.int (nI (j + 1)))]) (st' := []) (h' := h) (g' := g) rfl rfl rfl rfl ?_
          exact ih4 (j + 1) (b ||| ((nI (1)) <<< ((nI (j)) &&& 31))) (by omega) (by omega)
  refine X_eq (ls' := [some (.ref (wA w (x))), some (.int (nI (0))), some (.int (nI (0)))]) (st' := []) (h' := h) (g' := g) rfl rfl rfl rfl ?_
  exact lp4 _ (0) (nI (0)) (by omega) (Nat.le_refl _)
set_option maxHeartbeats 4000000 in
set_option maxRecDepth 100000 in
theorem ct_X7_kinds {l : Launch} {w : Kw} (hw : wOk w) {x : Nat} (hC : shC w x) (h : xI) (g : xJ) (hI : cOk h x) : Ct l w yX7_kinds cX7_kinds 1 (some .int) 3 70 [.ref (wA w (x))] h g (pQ (wI x h)) := by
  refine Ct_of (ls := [some (.ref (wA w (x)))]) (by decide) hw (Nat.le_of_ble_eq_true rfl) rfl (fun k hkl C => ?_)
  have C : Cx k w cX7_kinds RX7 1 (some .int) 3 70 := C
  have D := dtX7_kinds
  subst hkl
  have hC0 := hC
  obtain ⟨hxn, hsx, hT, hsi, hTa, hTb, hsk, hNs, hY, hX, hsv⟩ := hC
  have hY2 := hY.1
  have hX2 := hX.1
  have hI0 := hI
  obtain ⟨⟨⟨c0, hc0, hat⟩, hpa, ⟨ns, hns, hse⟩, ⟨nm, hnm, hma⟩⟩, -, -, ⟨nt, hnt, htx⟩, ⟨ct, hct, hatx⟩⟩ := hI
  have hI := hI0
  refine X_aload_n C 0 (D (0, .aload_n 0, 1) (mg 0 rfl)) rfl rfl ?_
  refine X_cV (As := []) (st := []) C (post := _) (x) (by omega) hsx rfl (ct_X7_harrowsThatFit hw hC0  h g hI) kX7_209 (by decide) (by decide) rfl rfl (Nat.le_of_ble_eq_true rfl) (D (1, .invokevirtual 209, 3) (mg 1 rfl)) rfl (fun v3 H1 G2 hv3 => ?_)
  obtain ⟨⟨y4, rfl⟩, rfl, rfl⟩ := hv3
  show X k w _ 4 [some (.ref (wA w (x)))] [.int (y4)] h g
  exact X_iret C (D (4, .ireturn, 1) (mg 2 rfl)) ⟨⟨_, rfl⟩, (wI_r hI)⟩
set_option maxHeartbeats 4000000 in
set_option maxRecDepth 100000 in
theorem ct_X7_mostAlike {l : Launch} {w : Kw} (hw : wOk w) {x : Nat} (hC : shC w x) (a1 : Int32) (h : xI) (g : xJ) (hI : cOk h x) : Ct l w yX7_mostAlike cX7_mostAlike 6 (some .int) 1 21 [.ref (wA w (x)), .int (a1)] h g (pI h g) := by
  refine Ct_of (ls := [some (.ref (wA w (x))), some (.int (a1)), none, none, none, none]) (by decide) hw (Nat.le_of_ble_eq_true rfl) rfl (fun k hkl C => ?_)
  have C : Cx k w cX7_mostAlike RX7 6 (some .int) 1 21 := C
  have D := dtX7_mostAlike
  subst hkl
  have hC0 := hC
  obtain ⟨hxn, hsx, hT, hsi, hTa, hTb, hsk, hNs, hY, hX, hsv⟩ := hC
  have hY2 := hY.1
  have hX2 := hX.1
  have hI0 := hI
  obtain ⟨⟨⟨c0, hc0, hat⟩, hpa, ⟨ns, hns, hse⟩, ⟨nm, hnm, hma⟩⟩, -, -, ⟨nt, hnt, htx⟩, ⟨ct, hct, hatx⟩⟩ := hI
  have hI := hI0
  refine X_iconst (v := nI (0)) C (D (0, .iconst 0, 1) (mg 0 rfl)) (by decide) ?_
  refine X_istore_n (ls' := [some (.ref (wA w (x))), some (.int (a1)), some (.int (nI (0))), none, none, none]) C 2 (D (1, .istore_n 2, 1) (mg 1 rfl)) rfl (Nat.le_of_ble_eq_true rfl) rfl ?_
  refine X_iconst (v := nI (0)) C (D (2, .iconst 0, 1) (mg 2 rfl)) (by decide) ?_
  refine X_istore_n (ls' := [some (.ref (wA w (x))), some (.int (a1)), some (.int (nI (0))), some (.int (nI (0))), none, none]) C 3 (D (3, .istore_n 3, 1) (mg 3 rfl)) rfl (Nat.le_of_ble_eq_true rfl) rfl ?_
  have lp4 : ∀ (nn4 : Nat) (j : Nat) (b : Int32), (j ≤ 6) → 7 - j ≤ nn4 → X k w (Zq k w (pI h g)) 4 [some (.ref (wA w (x))), some (.int (a1)), some (.int (b)), some (.int (nI (j))), none, none] [] h g := by
    intro nn4
    induction nn4 with
    | zero => intro j b hc4_0 hz; exact absurd hz (by omega)
    | succ nn4 ih4 =>
      intro j b hc4_0 hz4
      refine X_iload_n C 3 (D (4, .iload_n 3, 1) (mg 4 rfl)) rfl rfl ?_
      refine X_bipush (v := nI (6)) C (D (5, .bipush 6, 2) (mg 5 rfl)) (by decide) ?_
      refine X_icmp_ge (tgt := 80) C (D (7, .if_icmp .ge 73, 3) (mg 6 rfl)) (by decide) (fun q1 => ?_) (fun q1 => ?_)
      · skip
        have q1 : (j) ≥ (6) := by have z := (nI_leI (a := (6)) (b := (j)) (by omega) (by omega)).mp q1; omega
        refine X_iload_n C 2 (D (80, .iload_n 2, 1) (mg 46 rfl)) rfl rfl ?_
        exact X_iret C (D (81, .ireturn, 1) (mg 47 rfl)) ⟨⟨_, rfl⟩, rfl, rfl⟩
      · skip
        have q1 : (j) < (6) := by have z : ¬ ((6) ≤ (j)) := fun u => q1 ((nI_leI (a := (6)) (b := (j)) (by omega) (by omega)).mpr u); omega
        refine X_iconst (v := nI (0)) C (D (10, .iconst 0, 1) (mg 7 rfl)) (by decide) ?_
        refine X_istore (ls' := [some (.ref (wA w (x))), some (.int (a1)), some (.int (b)), some (.int (nI (j))), some (.int (nI (0))), none]) C (D (11, .istore 4, 2) (mg 8 rfl)) (Nat.le_of_ble_eq_true rfl) rfl ?_
        refine X_iconst (v := nI (0)) C (D (13, .iconst 0, 1) (mg 9 rfl)) (by decide) ?_
        refine X_istore (ls' := [some (.ref (wA w (x))), some (.int (a1)), some (.int (b)), some (.int (nI (j))), some (.int (nI (0))), some (.int (nI (0)))]) C (D (14, .istore 5, 2) (mg 10 rfl)) (Nat.le_of_ble_eq_true rfl) rfl ?_
        have lp16 : ∀ (nn16 : Nat) (i5 : Nat) (b4 : Int32), (i5 ≤ 6) → 7 - i5 ≤ nn16 → X k w (Zq k w (pI h g)) 16 [some (.ref (wA w (x))), some (.int (a1)), some (.int (b)), some (.int (nI (j))), some (.int (b4)), some (.int (nI (i5)))] [] h g := by
          intro nn16
          induction nn16 with
          | zero => intro i5 b4 hc16_0 hz; exact absurd hz (by omega)
          | succ nn16 ih16 =>
            intro i5 b4 hc16_0 hz16
            refine X_iload C (D (16, .iload 5, 2) (mg 11 rfl)) rfl ?_
            refine X_bipush (v := nI (6)) C (D (18, .bipush 6, 2) (mg 12 rfl)) (by decide) ?_
            refine X_icmp_ge (tgt := 58) C (D (20, .if_icmp .ge 38, 3) (mg 13 rfl)) (by decide) (fun q2 => ?_) (fun q2 => ?_)
            · skip
              have q2 : (i5) ≥ (6) := by have z := (nI_leI (a := (6)) (b := (i5)) (by omega) (by omega)).mp q2; omega
              refine X_iload_n C 1 (D (58, .iload_n 1, 1) (mg 33 rfl)) rfl rfl ?_
              refine X_iload_n C 3 (D (59, .iload_n 3, 1) (mg 34 rfl)) rfl rfl ?_
              refine X_ishr C (D (60, .ishr, 1) (mg 35 rfl)) ?_
              refine X_iconst (v := nI (1)) C (D (61, .iconst 1, 1) (mg 36 rfl)) (by decide) ?_
              refine X_iand C (D (62, .iand, 1) (mg 37 rfl)) ?_
              refine X_iconst (v := nI (1)) C (D (63, .iconst 1, 1) (mg 38 rfl)) (by decide) ?_
              refine X_icmp_ne (tgt := 74) C (D (64, .if_icmp .ne 10, 3) (mg 39 rfl)) (by decide) (fun q3 => ?_) (fun q3 => ?_)
              · skip
                refine X_iinc (v := nI (j + 1)) (ls' := [some (.ref (wA w (x))), some (.int (a1)), some (.int (b)), some (.int (nI (j + 1))), some (.int (b4)), some (.int (nI (i5)))]) C (D (74, .iinc 3 1, 3) (mg 44 rfl)) rfl (nI_add (j) 1) rfl ?_
                refine X_goto (tgt := 4) C (D (77, .goto (-73), 3) (mg 45 rfl)) (by decide) ?_
                refine X_los (ls' := [some (.ref (wA w (x))), some (.int (a1)), some (.int (b)), some (.int (nI (j + 1))), none, none]) (by simp [lsub]) ?_
                refine X_eq (ls' := [some (.ref (wA w (x))), some (.int (a1)), some (.int (b)), some (.int (nI (j + 1))), none, none]) (st' := []) (h' := h) (g' := g) rfl rfl rfl rfl ?_
                exact ih4 (j + 1) (b) (by omega) (by omega)
              · skip
                refine X_iload_n C 2 (D (67, .iload_n 2, 1) (mg 40 rfl)) rfl rfl ?_
                refine X_iload C (D (68, .iload 4, 2) (mg 41 rfl)) rfl ?_
                refine X_mmax (st := []) C kX7_275 (by decide) (by decide) (Nat.le_of_ble_eq_true rfl) rfl (D (70, .invokestatic 275, 3) (mg 42 rfl)) ?_
                refine X_istore_n (ls' := [some (.ref (wA w (x))), some (.int (a1)), some (.int (mxI (b) (b4))), some (.int (nI (j))), some (.int (b4)), some (.int (nI (i5)))]) C 2 (D (73, .istore_n 2, 1) (mg 43 rfl)) rfl (Nat.le_of_ble_eq_true rfl) rfl ?_
                refine X_iinc (v := nI (j + 1)) (ls' := [some (.ref (wA w (x))), some (.int (a1)), some (.int (mxI (b) (b4))), some (.int (nI (j + 1))), some (.int (b4)), some (.int (nI (i5)))]) C (D (74, .iinc 3 1, 3) (mg 44 rfl)) rfl (nI_add (j) 1) rfl ?_
                refine X_goto (tgt := 4) C (D (77, .goto (-73), 3) (mg 45 rfl)) (by decide) ?_
                refine X_los (ls' := [some (.ref (wA w (x))), some (.int (a1)), some (.int (mxI (b) (b4))), some (.int (nI (j + 1))), none, none]) (by simp [lsub]) ?_
                refine X_eq (ls' := [some (.ref (wA w (x))), some (.int (a1)), some (.int (mxI (b) (b4))), some (.int (nI (j + 1))), none, none]) (st' := []) (h' := h) (g' := g) rfl rfl rfl rfl ?_
                exact ih4 (j + 1) (mxI (b) (b4)) (by omega) (by omega)
            · skip
              have q2 : (i5) < (6) := by have z : ¬ ((6) ≤ (i5)) := fun u => q2 ((nI_leI (a := (6)) (b := (i5)) (by omega) (by omega)).mpr u); omega
              refine X_iload_n C 1 (D (23, .iload_n 1, 1) (mg 14 rfl)) rfl rfl ?_
              refine X_iload C (D (24, .iload 5, 2) (mg 15 rfl)) rfl ?_
              refine X_ishr C (D (26, .ishr, 1) (mg 16 rfl)) ?_
              refine X_iconst (v := nI (1)) C (D (27, .iconst 1, 1) (mg 17 rfl)) (by decide) ?_
              refine X_iand C (D (28, .iand, 1) (mg 18 rfl)) ?_
              refine X_iconst (v := nI (1)) C (D (29, .iconst 1, 1) (mg 19 rfl)) (by decide) ?_
              refine X_icmp_ne (tgt := 52) C (D (30, .if_icmp .ne 22, 3) (mg 20 rfl)) (by decide) (fun q4 => ?_) (fun q4 => ?_)
              · skip
                refine X_iinc (v := nI (i5 + 1)) (ls' := [some (.ref (wA w (x))), some (.int (a1)), some (.int (b)), some (.int (nI (j))), some (.int (b4)), some (.int (nI (i5 + 1)))]) C (D (52, .iinc 5 1, 3) (mg 31 rfl)) rfl (nI_add (i5) 1) rfl ?_
                refine X_goto (tgt := 16) C (D (55, .goto (-39), 3) (mg 32 rfl)) (by decide) ?_
                refine X_eq (ls' := [some (.ref (wA w (x))), some (.int (a1)), some (.int (b)), some (.int (nI (j))), some (.int (b4)), some (.int (nI (i5 + 1)))]) (st' := []) (h' := h) (g' := g) rfl rfl rfl rfl ?_
                exact ih16 (i5 + 1) (b4) (by omega) (by omega)
              · skip
                refine X_aload_n C 0 (D (33, .aload_n 0, 1) (mg 21 rfl)) rfl rfl ?_
                refine X_get (v := .ref (wA w (x + 38))) C (x) 6 (by omega) hsx rfl rfl (by decide) inX7 fX7_45 rfl (D (34, .getfield 45, 3) (mg 22 rfl)) rfl ?_
                refine X_iload C (D (37, .iload 5, 2) (mg 23 rfl)) rfl ?_
                refine X_iald (v := h (x + 38) (i5)) C (x + 38) (by omega) hsv (vp_in_nI (by omega) (by omega)) (D (39, .iaload, 1) (mg 24 rfl)) (by rw [nI_clamp (by omega)]) ?_
                refine X_aload_n C 0 (D (40, .aload_n 0, 1) (mg 25 rfl)) rfl rfl ?_
                refine X_get (v := .ref (wA w (x + 38))) C (x) 6 (by omega) hsx rfl rfl (by decide) inX7 fX7_45 rfl (D (41, .getfield 45, 3) (mg 26 rfl)) rfl ?_
                refine X_iload_n C 3 (D (44, .iload_n 3, 1) (mg 27 rfl)) rfl rfl ?_
                refine X_iald (v := h (x + 38) (j)) C (x + 38) (by omega) hsv (vp_in_nI (by omega) (by omega)) (D (45, .iaload, 1) (mg 28 rfl)) (by rw [nI_clamp (by omega)]) ?_
                refine X_icmp_ne (tgt := 52) C (D (46, .if_icmp .ne 6, 3) (mg 29 rfl)) (by decide) (fun q5 => ?_) (fun q5 => ?_)
                · skip
                  refine X_iinc (v := nI (i5 + 1)) (ls' := [some (.ref (wA w (x))), some (.int (a1)), some (.int (b)), some (.int (nI (j))), some (.int (b4)), some (.int (nI (i5 + 1)))]) C (D (52, .iinc 5 1, 3) (mg 31 rfl)) rfl (nI_add (i5) 1) rfl ?_
                  refine X_goto (tgt := 16) C (D (55, .goto (-39), 3) (mg 32 rfl)) (by decide) ?_
                  refine X_eq (ls' := [some (.ref (wA w (x))), some (.int (a1)), some (.int (b)), some (.int (nI (j))), some (.int (b4)), some (.int (nI (i5 + 1)))]) (st' := []) (h' := h) (g' := g) rfl rfl rfl rfl ?_
                  exact ih16 (i5 + 1) (b4) (by omega) (by omega)
                · skip
                  refine X_iinc (v := b4 + 1) (ls' := [some (.ref (wA w (x))), some (.int (a1)), some (.int (b)), some (.int (nI (j))), some (.int (b4 + 1)), some (.int (nI (i5)))]) C (D (49, .iinc 4 1, 3) (mg 30 rfl)) rfl rfl rfl ?_
                  refine X_iinc (v := nI (i5 + 1)) (ls' := [some (.ref (wA w (x))), some (.int (a1)), some (.int (b)), some (.int (nI (j))), some (.int (b4 + 1)), some (.int (nI (i5 + 1)))]) C (D (52, .iinc 5 1, 3) (mg 31 rfl)) rfl (nI_add (i5) 1) rfl ?_
                  refine X_goto (tgt := 16) C (D (55, .goto (-39), 3) (mg 32 rfl)) (by decide) ?_
                  refine X_eq (ls' := [some (.ref (wA w (x))), some (.int (a1)), some (.int (b)), some (.int (nI (j))), some (.int (b4 + 1)), some (.int (nI (i5 + 1)))]) (st' := []) (h' := h) (g' := g) rfl rfl rfl rfl ?_
                  exact ih16 (i5 + 1) (b4 + 1) (by omega) (by omega)
        refine X_eq (ls' := [some (.ref (wA w (x))), some (.int (a1)), some (.int (b)), some (.int (nI (j))), some (.int (nI (0))), some (.int (nI (0)))]) (st' := []) (h' := h) (g' := g) rfl rfl rfl rfl ?_
        exact lp16 _ (0) (nI (0)) (by omega) (Nat.le_refl _)
  refine X_eq (ls' := [some (.ref (wA w (x))), some (.int (a1)), some (.int (nI (0))), some (.int (nI (0))), none, none]) (st' := []) (h' := h) (g' := g) rfl rfl rfl rfl ?_
  exact lp4 _ (0) (nI (0)) (by omega) (Nat.le_refl _)
set_option maxHeartbeats 4000000 in
set_option maxRecDepth 100000 in
theorem ct_X7_tell {l : Launch} {w : Kw} (hw : wOk w) {x : Nat} (hC : shC w x) (a1 : Int32) (h : xI) (g : xJ) (hI : cOk h x) : Ct l w yX7_tell cX7_tell 9 (some .int) 4 94 [.ref (wA w (x)), .int (a1)] h g (pQ (wI x h)) := by
  refine Ct_of (ls := [some (.ref (wA w (x))), some (.int (a1)), none, none, none, none, none, none, none]) (by decide) hw (Nat.le_of_ble_eq_true rfl) rfl (fun k hkl C => ?_)
  have C : Cx k w cX7_tell RX7 9 (some .int) 4 94 := C
  have D := dtX7_tell
  subst hkl
  have hC0 := hC
  obtain ⟨hxn, hsx, hT, hsi, hTa, hTb, hsk, hNs, hY, hX, hsv⟩ := hC
  have hY2 := hY.1
  have hX2 := hX.1
  have hI0 := hI
  obtain ⟨⟨⟨c0, hc0, hat⟩, hpa, ⟨ns, hns, hse⟩, ⟨nm, hnm, hma⟩⟩, -, -, ⟨nt, hnt, htx⟩, ⟨ct, hct, hatx⟩⟩ := hI
  have hI := hI0
  refine X_iload_n C 1 (D (0, .iload_n 1, 1) (mg 0 rfl)) rfl rfl ?_
  refine X_bipush (v := nI (25)) C (D (1, .bipush 25, 2) (mg 1 rfl)) (by decide) ?_
  refine X_cS (As := [.int (a1), .int (nI (25))]) (st := []) C (post := _) (ct_X7_isBelow hw (a1) (B := 25) (by decide) h g) kX7_53 (by decide) (by decide) rfl rfl (Nat.le_of_ble_eq_true rfl) (D (3, .invokestatic 53, 3) (mg 2 rfl)) rfl (fun v3 H1 G2 hv3 => ?_)
  obtain ⟨rfl, rfl, rfl⟩ := hv3
  show X k w _ 6 [some (.ref (wA w (x))), some (.int (a1)), none, none, none, none, none, none, none] [.int (if 0 ≤ (a1).toInt ∧ (a1).toInt < ((25 : Nat) : Int) then 1 else 0)] h g
  refine X_if_ne (tgt := 14) C (D (6, .ifCond .ne 8, 3) (mg 3 rfl)) (by decide) (fun q4 => ?_) (fun q4 => ?_)
  · skip
    have q4 : (0 ≤ (a1).toInt ∧ (a1).toInt < ((25 : Nat) : Int)) := bz1.mp q4
    refine X_aload_n C 0 (D (14, .aload_n 0, 1) (mg 7 rfl)) rfl rfl ?_
    refine X_iload_n C 1 (D (15, .iload_n 1, 1) (mg 8 rfl)) rfl rfl ?_
    refine X_cV (As := [.int (a1)]) (st := []) C (post := _) (x) (by omega) hsx rfl (ct_X7_sayingsFor hw hC0 (a1) h g hI) kX7_191 (by decide) (by decide) rfl rfl (Nat.le_of_ble_eq_true rfl) (D (16, .invokevirtual 191, 3) (mg 9 rfl)) rfl (fun v7 H5 G6 hv7 => ?_)
    obtain ⟨⟨y8, rfl⟩, rfl, rfl⟩ := hv7
    show X k w _ 19 [some (.ref (wA w (x))), some (.int (a1)), none, none, none, none, none, none, none] [.int (y8)] h g
    refine X_istore_n (ls' := [some (.ref (wA w (x))), some (.int (a1)), some (.int (y8)), none, none, none, none, none, none]) C 2 (D (19, .istore_n 2, 1) (mg 10 rfl)) rfl (Nat.le_of_ble_eq_true rfl) rfl ?_
    refine X_bipush (v := nI (7)) C (D (20, .bipush 7, 2) (mg 11 rfl)) (by decide) ?_
    refine X_istore_n (ls' := [some (.ref (wA w (x))), some (.int (a1)), some (.int (y8)), some (.int (nI (7))), none, none, none, none, none]) C 3 (D (22, .istore_n 3, 1) (mg 12 rfl)) rfl (Nat.le_of_ble_eq_true rfl) rfl ?_
    refine X_iconst (v := (-1 : Int32)) C (D (23, .iconst (-1), 1) (mg 13 rfl)) (by decide) ?_
    refine X_istore (ls' := [some (.ref (wA w (x))), some (.int (a1)), some (.int (y8)), some (.int (nI (7))), some (.int ((-1 : Int32))), none, none, none, none]) C (D (24, .istore 4, 2) (mg 14 rfl)) (Nat.le_of_ble_eq_true rfl) rfl ?_
    refine X_iconst (v := nI (0)) C (D (26, .iconst 0, 1) (mg 15 rfl)) (by decide) ?_
    refine X_istore (ls' := [some (.ref (wA w (x))), some (.int (a1)), some (.int (y8)), some (.int (nI (7))), some (.int ((-1 : Int32))), some (.int (nI (0))), none, none, none]) C (D (27, .istore 5, 2) (mg 16 rfl)) (Nat.le_of_ble_eq_true rfl) rfl ?_
    have lp29 : ∀ (nn29 : Nat) (j : Nat) (b3 : Int32) (b4 : Int32) (hp29 : xI) (gp29 : xJ), (j ≤ 210) → (wI x h hp29) → 211 - j ≤ nn29 → X k w (Zq k w (pQ (wI x h))) 29 [some (.ref (wA w (x))), some (.int (a1)), some (.int (y8)), some (.int (b3)), some (.int (b4)), some (.int (nI (j))), none, none, none] [] hp29 gp29 := by
      intro nn29
      induction nn29 with
      | zero => intro j b3 b4 hp29 gp29 hc29_0 hc29_1 hz; exact absurd hz (by omega)
      | succ nn29 ih29 =>
        intro j b3 b4 hp29 gp29 hc29_0 hc29_1 hz29
        obtain ⟨c9, hc9, hac9⟩ := (hc29_1).2.1
        refine X_iload C (D (29, .iload 5, 2) (mg 17 rfl)) rfl ?_
        refine X_sipush (v := nI (210)) C (D (31, .sipush 210, 3) (mg 18 rfl)) (by decide) ?_
        refine X_icmp_ge (tgt := 119) C (D (34, .if_icmp .ge 85, 3) (mg 19 rfl)) (by decide) (fun q10 => ?_) (fun q10 => ?_)
        · skip
          have q10 : (j) ≥ (210) := by have z := (nI_leI (a := (210)) (b := (j)) (by omega) (by omega)).mp q10; omega
          refine X_iload C (D (119, .iload 4, 2) (mg 62 rfl)) rfl ?_
          exact X_iret C (D (121, .ireturn, 1) (mg 63 rfl)) ⟨⟨_, rfl⟩, hc29_1⟩
        · skip
          have q10 : (j) < (210) := by have z : ¬ ((210) ≤ (j)) := fun u => q10 ((nI_leI (a := (210)) (b := (j)) (by omega) (by omega)).mpr u); omega
          refine X_iload_n C 2 (D (37, .iload_n 2, 1) (mg 20 rfl)) rfl rfl ?_
          refine X_if_eq (tgt := 119) C (D (38, .ifCond .eq 81, 3) (mg 21 rfl)) (by decide) (fun q11 => ?_) (fun q11 => ?_)
          · skip
            refine X_iload C (D (119, .iload 4, 2) (mg 62 rfl)) rfl ?_
            exact X_iret C (D (121, .ireturn, 1) (mg 63 rfl)) ⟨⟨_, rfl⟩, hc29_1⟩
          · skip
            refine X_iload C (D (41, .iload 5, 2) (mg 22 rfl)) rfl ?_
            refine X_bipush (v := nI (21)) C (D (43, .bipush 21, 2) (mg 23 rfl)) (by decide) ?_
            refine X_idiv C (D (45, .idiv, 1) (mg 24 rfl)) (by decide) ?_
            refine X_ti (y := nI ((j) / (21))) (pk_div (by omega) (by omega) (by omega)) ?_
            refine X_istore (ls' := [some (.ref (wA w (x))), some (.int (a1)), some (.int (y8)), some (.int (b3)), some (.int (b4)), some (.int (nI (j))), some (.int (nI ((j) / (21)))), none, none]) C (D (46, .istore 6, 2) (mg 25 rfl)) (Nat.le_of_ble_eq_true rfl) rfl ?_
            refine X_iload C (D (48, .iload 5, 2) (mg 26 rfl)) rfl ?_
            refine X_bipush (v := nI (21)) C (D (50, .bipush 21, 2) (mg 27 rfl)) (by decide) ?_
            refine X_irem C (D (52, .irem, 1) (mg 28 rfl)) (by decide) ?_
            refine X_ti (y := nI ((j) % (21))) (pk_rem (by omega) (by omega) (by omega)) ?_
            refine X_istore (ls' := [some (.ref (wA w (x))), some (.int (a1)), some (.int (y8)), some (.int (b3)), some (.int (b4)), some (.int (nI (j))), some (.int (nI ((j) / (21)))), some (.int (nI ((j) % (21)))), none]) C (D (53, .istore 7, 2) (mg 29 rfl)) (Nat.le_of_ble_eq_true rfl) rfl ?_
            refine X_iconst (v := nI (0)) C (D (55, .iconst 0, 1) (mg 30 rfl)) (by decide) ?_
            refine X_istore (ls' := [some (.ref (wA w (x))), some (.int (a1)), some (.int (y8)), some (.int (b3)), some (.int (b4)), some (.int (nI (j))), some (.int (nI ((j) / (21)))), some (.int (nI ((j) % (21)))), some (.int (nI (0)))]) C (D (56, .istore 8, 2) (mg 31 rfl)) (Nat.le_of_ble_eq_true rfl) rfl ?_
            have lp58 : ∀ (nn58 : Nat) (i8 : Nat) (hp58 : xI) (gp58 : xJ), (i8 ≤ 6) → (wI x h hp58) → 7 - i8 ≤ nn58 → X k w (Zq k w (pQ (wI x h))) 58 [some (.ref (wA w (x))), some (.int (a1)), some (.int (y8)), some (.int (b3)), some (.int (b4)), some (.int (nI (j))), some (.int (nI ((j) / (21)))), some (.int (nI ((j) % (21)))), some (.int (nI (i8)))] [] hp58 gp58 := by
              intro nn58
              induction nn58 with
              | zero => intro i8 hp58 gp58 hc58_0 hc58_1 hz; exact absurd hz (by omega)
              | succ nn58 ih58 =>
                intro i8 hp58 gp58 hc58_0 hc58_1 hz58
                obtain ⟨c12, hc12, hac12⟩ := (hc58_1).2.1
                refine X_iload C (D (58, .iload 8, 2) (mg 32 rfl)) rfl ?_
                refine X_bipush (v := nI (6)) C (D (60, .bipush 6, 2) (mg 33 rfl)) (by decide) ?_
                refine X_icmp_ge (tgt := 87) C (D (62, .if_icmp .ge 25, 3) (mg 34 rfl)) (by decide) (fun q13 => ?_) (fun q13 => ?_)
                · skip
                  have q13 : (i8) ≥ (6) := by have z := (nI_leI (a := (6)) (b := (i8)) (by omega) (by omega)).mp q13; omega
                  refine X_aload_n C 0 (D (87, .aload_n 0, 1) (mg 45 rfl)) rfl rfl ?_
                  refine X_iload_n C 2 (D (88, .iload_n 2, 1) (mg 46 rfl)) rfl rfl ?_
                  refine X_cV (As := [.int (y8)]) (st := []) C (post := _) (x) (by omega) hsx rfl (ct_X7_mostAlike hw hC0 (y8) hp58 gp58 (cOk_w hI hc58_1)) kX7_200 (by decide) (by decide) rfl rfl (Nat.le_of_ble_eq_true rfl) (D (89, .invokevirtual 200, 3) (mg 47 rfl)) rfl (fun v16 H14 G15 hv16 => ?_)
                  obtain ⟨⟨y17, rfl⟩, rfl, rfl⟩ := hv16
                  show X k w _ 92 [some (.ref (wA w (x))), some (.int (a1)), some (.int (y8)), some (.int (b3)), some (.int (b4)), some (.int (nI (j))), some (.int (nI ((j) / (21)))), some (.int (nI ((j) % (21)))), some (.int (nI (i8)))] [.int (y17)] hp58 gp58
                  refine X_istore (ls' := [some (.ref (wA w (x))), some (.int (a1)), some (.int (y8)), some (.int (b3)), some (.int (b4)), some (.int (nI (j))), some (.int (nI ((j) / (21)))), some (.int (nI ((j) % (21)))), some (.int (y17))]) C (D (92, .istore 8, 2) (mg 48 rfl)) (Nat.le_of_ble_eq_true rfl) rfl ?_
                  refine X_iload C (D (94, .iload 8, 2) (mg 49 rfl)) rfl ?_
                  refine X_iload_n C 3 (D (96, .iload_n 3, 1) (mg 50 rfl)) rfl rfl ?_
                  refine X_icmp_ge (tgt := 113) C (D (97, .if_icmp .ge 16, 3) (mg 51 rfl)) (by decide) (fun q18 => ?_) (fun q18 => ?_)
                  · skip
                    refine X_iinc (v := nI (j + 1)) (ls' := [some (.ref (wA w (x))), some (.int (a1)), some (.int (y8)), some (.int (b3)), some (.int (b4)), some (.int (nI (j + 1))), some (.int (nI ((j) / (21)))), some (.int (nI ((j) % (21)))), some (.int (y17))]) C (D (113, .iinc 5 1, 3) (mg 60 rfl)) rfl (nI_add (j) 1) rfl ?_
                    refine X_goto (tgt := 29) C (D (116, .goto (-87), 3) (mg 61 rfl)) (by decide) ?_
                    refine X_los (ls' := [some (.ref (wA w (x))), some (.int (a1)), some (.int (y8)), some (.int (b3)), some (.int (b4)), some (.int (nI (j + 1))), none, none, none]) (by simp [lsub]) ?_
                    refine X_eq (ls' := [some (.ref (wA w (x))), some (.int (a1)), some (.int (y8)), some (.int (b3)), some (.int (b4)), some (.int (nI (j + 1))), none, none, none]) (st' := []) (h' := hp58) (g' := gp58) rfl rfl rfl rfl ?_
                    exact ih29 (j + 1) (b3) (b4) (hp58) (gp58) (by omega) hc58_1 (by omega)
                  · skip
                    refine X_iload C (D (100, .iload 8, 2) (mg 52 rfl)) rfl ?_
                    refine X_istore_n (ls' := [some (.ref (wA w (x))), some (.int (a1)), some (.int (y8)), some (.int (y17)), some (.int (b4)), some (.int (nI (j))), some (.int (nI ((j) / (21)))), some (.int (nI ((j) % (21)))), some (.int (y17))]) C 3 (D (102, .istore_n 3, 1) (mg 53 rfl)) rfl (Nat.le_of_ble_eq_true rfl) rfl ?_
                    refine X_bipush (v := nI (100)) C (D (103, .bipush 100, 2) (mg 54 rfl)) (by decide) ?_
                    refine X_iload C (D (105, .iload 6, 2) (mg 55 rfl)) rfl ?_
                    refine X_imul C (D (107, .imul, 1) (mg 56 rfl)) ?_
                    refine X_ti (y := nI ((100) * ((j) / (21)))) (pk_mul (100) ((j) / (21))) ?_
                    refine X_iload C (D (108, .iload 7, 2) (mg 57 rfl)) rfl ?_
                    refine X_iadd C (D (110, .iadd, 1) (mg 58 rfl)) ?_
                    refine X_ti (y := nI ((100) * ((j) / (21)) + (j) % (21))) (nI_add ((100) * ((j) / (21))) ((j) % (21))) ?_
                    refine X_istore (ls' := [some (.ref (wA w (x))), some (.int (a1)), some (.int (y8)), some (.int (y17)), some (.int (nI ((100) * ((j) / (21)) + (j) % (21)))), some (.int (nI (j))), some (.int (nI ((j) / (21)))), some (.int (nI ((j) % (21)))), some (.int (y17))]) C (D (111, .istore 4, 2) (mg 59 rfl)) (Nat.le_of_ble_eq_true rfl) rfl ?_
                    refine X_iinc (v := nI (j + 1)) (ls' := [some (.ref (wA w (x))), some (.int (a1)), some (.int (y8)), some (.int (y17)), some (.int (nI ((100) * ((j) / (21)) + (j) % (21)))), some (.int (nI (j + 1))), some (.int (nI ((j) / (21)))), some (.int (nI ((j) % (21)))), some (.int (y17))]) C (D (113, .iinc 5 1, 3) (mg 60 rfl)) rfl (nI_add (j) 1) rfl ?_
                    refine X_goto (tgt := 29) C (D (116, .goto (-87), 3) (mg 61 rfl)) (by decide) ?_
                    refine X_los (ls' := [some (.ref (wA w (x))), some (.int (a1)), some (.int (y8)), some (.int (y17)), some (.int (nI ((100) * ((j) / (21)) + (j) % (21)))), some (.int (nI (j + 1))), none, none, none]) (by simp [lsub]) ?_
                    refine X_eq (ls' := [some (.ref (wA w (x))), some (.int (a1)), some (.int (y8)), some (.int (y17)), some (.int (nI ((100) * ((j) / (21)) + (j) % (21)))), some (.int (nI (j + 1))), none, none, none]) (st' := []) (h' := hp58) (g' := gp58) rfl rfl rfl rfl ?_
                    exact ih29 (j + 1) (y17) (nI ((100) * ((j) / (21)) + (j) % (21))) (hp58) (gp58) (by omega) hc58_1 (by omega)
                · skip
                  have q13 : (i8) < (6) := by have z : ¬ ((6) ≤ (i8)) := fun u => q13 ((nI_leI (a := (6)) (b := (i8)) (by omega) (by omega)).mpr u); omega
                  refine X_aload_n C 0 (D (65, .aload_n 0, 1) (mg 35 rfl)) rfl rfl ?_
                  refine X_get (v := .ref (wA w (x + 38))) C (x) 6 (by omega) hsx rfl rfl (by decide) inX7 fX7_45 rfl (D (66, .getfield 45, 3) (mg 36 rfl)) rfl ?_
                  refine X_iload C (D (69, .iload 8, 2) (mg 37 rfl)) rfl ?_
                  refine X_iload C (D (71, .iload 8, 2) (mg 38 rfl)) rfl ?_
                  refine X_iload C (D (73, .iload 6, 2) (mg 39 rfl)) rfl ?_
                  refine X_iload C (D (75, .iload 7, 2) (mg 40 rfl)) rfl ?_
                  refine X_cS (As := [.int (nI (i8)), .int (nI ((j) / (21))), .int (nI ((j) % (21)))]) (st := [.int (nI (i8)), .ref (wA w (x + 38))]) C (post := _) (ct_X3_stands hw (nI (i8)) (nI ((j) / (21))) (nI ((j) % (21))) hp58 gp58) kX7_194 (by decide) (by decide) rfl rfl (Nat.le_of_ble_eq_true rfl) (D (77, .invokestatic 194, 3) (mg 41 rfl)) rfl (fun v21 H19 G20 hv21 => ?_)
                  obtain ⟨rfl, rfl, rfl⟩ := hv21
                  show X k w _ 80 [some (.ref (wA w (x))), some (.int (a1)), some (.int (y8)), some (.int (b3)), some (.int (b4)), some (.int (nI (j))), some (.int (nI ((j) / (21)))), some (.int (nI ((j) % (21)))), some (.int (nI (i8)))] [.int (hiC (nI (i8)) (nI ((j) / (21))) (nI ((j) % (21)))), .int (nI (i8)), .ref (wA w (x + 38))] hp58 gp58
                  refine X_iast (j := i8) C (x + 38) (by omega) hsv (vp_in_nI (by omega) (by omega)) (D (80, .iastore, 1) (mg 42 rfl)) (nI_clamp (by omega)) ?_
                  refine X_iinc (v := nI (i8 + 1)) (ls' := [some (.ref (wA w (x))), some (.int (a1)), some (.int (y8)), some (.int (b3)), some (.int (b4)), some (.int (nI (j))), some (.int (nI ((j) / (21)))), some (.int (nI ((j) % (21)))), some (.int (nI (i8 + 1)))]) C (D (81, .iinc 8 1, 3) (mg 43 rfl)) rfl (nI_add (i8) 1) rfl ?_
                  refine X_goto (tgt := 58) C (D (84, .goto (-26), 3) (mg 44 rfl)) (by decide) ?_
                  refine X_eq (ls' := [some (.ref (wA w (x))), some (.int (a1)), some (.int (y8)), some (.int (b3)), some (.int (b4)), some (.int (nI (j))), some (.int (nI ((j) / (21)))), some (.int (nI ((j) % (21)))), some (.int (nI (i8 + 1)))]) (st' := []) (h' := (u2 hp58 (x + 38) (i8) (hiC (nI (i8)) (nI ((j) / (21))) (nI ((j) % (21)))))) (g' := gp58) rfl rfl rfl rfl ?_
                  exact ih58 (i8 + 1) ((u2 hp58 (x + 38) (i8) (hiC (nI (i8)) (nI ((j) / (21))) (nI ((j) % (21)))))) (gp58) (by omega) ⟨fun q i z0 => by have z := z0; unfold SW at z; rw [u2_ne _ _ _ _ (by omega)]; exact (hc58_1).1 q i z0, ⟨c12, (by omega), (((u2_p _ _ _ _ (by omega))).trans hac12)⟩, (paOk_k (fun q i z => by rw [u2_ne _ _ _ _ (by omega)]) (hc58_1).2.2)⟩ (by omega)
            refine X_eq (ls' := [some (.ref (wA w (x))), some (.int (a1)), some (.int (y8)), some (.int (b3)), some (.int (b4)), some (.int (nI (j))), some (.int (nI ((j) / (21)))), some (.int (nI ((j) % (21)))), some (.int (nI (0)))]) (st' := []) (h' := hp29) (g' := gp29) rfl rfl rfl rfl ?_
            exact lp58 _ (0) (hp29) (gp29) (by omega) hc29_1 (Nat.le_refl _)
    refine X_eq (ls' := [some (.ref (wA w (x))), some (.int (a1)), some (.int (y8)), some (.int (nI (7))), some (.int ((-1 : Int32))), some (.int (nI (0))), none, none, none]) (st' := []) (h' := h) (g' := g) rfl rfl rfl rfl ?_
    exact lp29 _ (0) (nI (7)) ((-1 : Int32)) (h) (g) (by omega) (wI_r hI) (Nat.le_refl _)
  · skip
    have q4 : ¬ (0 ≤ (a1).toInt ∧ (a1).toInt < ((25 : Nat) : Int)) := bz0.mp q4
    refine X_aload_n C 0 (D (9, .aload_n 0, 1) (mg 4 rfl)) rfl rfl ?_
    refine X_cV (As := []) (st := []) C (post := _) (x) (by omega) hsx rfl (ct_X7_refuseBad hw hC0 h g) kX7_57 (by decide) (by decide) rfl rfl (Nat.le_of_ble_eq_true rfl) (D (10, .invokevirtual 57, 3) (mg 5 rfl)) rfl (fun v24 H22 G23 hv24 => ?_)
    obtain ⟨rfl, rfl, rfl⟩ := hv24
    show X k w _ 13 [some (.ref (wA w (x))), some (.int (a1)), none, none, none, none, none, none, none] [.int ((-2 : Int32))] (rcH h (x) 9) g
    exact X_iret C (D (13, .ireturn, 1) (mg 6 rfl)) ⟨⟨_, rfl⟩, ⟨fun q i z0 => by have z := z0; unfold SW at z; rw [rcH_ne _ _ _ (by omega)], ⟨c0, (by omega), (((rcH_ne _ _ _ (by omega))).trans hat)⟩, (paOk_k (fun q i z => by rw [rcH_ne _ _ _ (by omega)]) hpa)⟩⟩
set_option maxHeartbeats 4000000 in
set_option maxRecDepth 100000 in
theorem ct_X7_ask {l : Launch} {w : Kw} (hw : wOk w) {x : Nat} (hC : shC w x) (h : xI) (g : xJ) (hI : cOk h x) : Ct l w yX7_ask cX7_ask 8 (some .int) 3 70 [.ref (wA w (x))] h g (pQ (wI x h)) := by
  refine Ct_of (ls := [some (.ref (wA w (x))), none, none, none, none, none, none, none]) (by decide) hw (Nat.le_of_ble_eq_true rfl) rfl (fun k hkl C => ?_)
  have C : Cx k w cX7_ask RX7 8 (some .int) 3 70 := C
  have D := dtX7_ask
  subst hkl
  have hC0 := hC
  obtain ⟨hxn, hsx, hT, hsi, hTa, hTb, hsk, hNs, hY, hX, hsv⟩ := hC
  have hY2 := hY.1
  have hX2 := hX.1
  have hI0 := hI
  obtain ⟨⟨⟨c0, hc0, hat⟩, hpa, ⟨ns, hns, hse⟩, ⟨nm, hnm, hma⟩⟩, -, -, ⟨nt, hnt, htx⟩, ⟨ct, hct, hatx⟩⟩ := hI
  have hI := hI0
  refine X_aload_n C 0 (D (0, .aload_n 0, 1) (mg 0 rfl)) rfl rfl ?_
  refine X_cV (As := []) (st := []) C (post := _) (x) (by omega) hsx rfl (ct_X7_harrowsThatFit hw hC0  h g hI) kX7_209 (by decide) (by decide) rfl rfl (Nat.le_of_ble_eq_true rfl) (D (1, .invokevirtual 209, 3) (mg 1 rfl)) rfl (fun v3 H1 G2 hv3 => ?_)
  obtain ⟨⟨y4, rfl⟩, rfl, rfl⟩ := hv3
  show X k w _ 4 [some (.ref (wA w (x))), none, none, none, none, none, none, none] [.int (y4)] h g
  refine X_istore_n (ls' := [some (.ref (wA w (x))), some (.int (y4)), none, none, none, none, none, none]) C 1 (D (4, .istore_n 1, 1) (mg 2 rfl)) rfl (Nat.le_of_ble_eq_true rfl) rfl ?_
  refine X_bipush (v := nI (7)) C (D (5, .bipush 7, 2) (mg 3 rfl)) (by decide) ?_
  refine X_istore_n (ls' := [some (.ref (wA w (x))), some (.int (y4)), some (.int (nI (7))), none, none, none, none, none]) C 2 (D (7, .istore_n 2, 1) (mg 4 rfl)) rfl (Nat.le_of_ble_eq_true rfl) rfl ?_
  refine X_iconst (v := (-1 : Int32)) C (D (8, .iconst (-1), 1) (mg 5 rfl)) (by decide) ?_
  refine X_istore_n (ls' := [some (.ref (wA w (x))), some (.int (y4)), some (.int (nI (7))), some (.int ((-1 : Int32))), none, none, none, none]) C 3 (D (9, .istore_n 3, 1) (mg 6 rfl)) rfl (Nat.le_of_ble_eq_true rfl) rfl ?_
  refine X_iconst (v := nI (0)) C (D (10, .iconst 0, 1) (mg 7 rfl)) (by decide) ?_
  refine X_istore (ls' := [some (.ref (wA w (x))), some (.int (y4)), some (.int (nI (7))), some (.int ((-1 : Int32))), some (.int (nI (0))), none, none, none]) C (D (11, .istore 4, 2) (mg 8 rfl)) (Nat.le_of_ble_eq_true rfl) rfl ?_
  have lp13 : ∀ (nn13 : Nat) (j : Nat) (b2 : Int32) (b3 : Int32) (hp13 : xI) (gp13 : xJ), (j ≤ 50) → (wI x h hp13) → 51 - j ≤ nn13 → X k w (Zq k w (pQ (wI x h))) 13 [some (.ref (wA w (x))), some (.int (y4)), some (.int (b2)), some (.int (b3)), some (.int (nI (j))), none, none, none] [] hp13 gp13 := by
    intro nn13
    induction nn13 with
    | zero => intro j b2 b3 hp13 gp13 hc13_0 hc13_1 hz; exact absurd hz (by omega)
    | succ nn13 ih13 =>
      intro j b2 b3 hp13 gp13 hc13_0 hc13_1 hz13
      obtain ⟨c5, hc5, hac5⟩ := (hc13_1).2.1
      refine X_iload C (D (13, .iload 4, 2) (mg 9 rfl)) rfl ?_
      refine X_bipush (v := nI (50)) C (D (15, .bipush 50, 2) (mg 10 rfl)) (by decide) ?_
      refine X_icmp_ge (tgt := 101) C (D (17, .if_icmp .ge 84, 3) (mg 11 rfl)) (by decide) (fun q6 => ?_) (fun q6 => ?_)
      · skip
        have q6 : (j) ≥ (50) := by have z := (nI_leI (a := (50)) (b := (j)) (by omega) (by omega)).mp q6; omega
        refine X_iload_n C 3 (D (101, .iload_n 3, 1) (mg 54 rfl)) rfl rfl ?_
        exact X_iret C (D (102, .ireturn, 1) (mg 55 rfl)) ⟨⟨_, rfl⟩, hc13_1⟩
      · skip
        have q6 : (j) < (50) := by have z : ¬ ((50) ≤ (j)) := fun u => q6 ((nI_leI (a := (50)) (b := (j)) (by omega) (by omega)).mpr u); omega
        refine X_iload_n C 1 (D (20, .iload_n 1, 1) (mg 12 rfl)) rfl rfl ?_
        refine X_if_eq (tgt := 101) C (D (21, .ifCond .eq 80, 3) (mg 13 rfl)) (by decide) (fun q7 => ?_) (fun q7 => ?_)
        · skip
          refine X_iload_n C 3 (D (101, .iload_n 3, 1) (mg 54 rfl)) rfl rfl ?_
          exact X_iret C (D (102, .ireturn, 1) (mg 55 rfl)) ⟨⟨_, rfl⟩, hc13_1⟩
        · skip
          refine X_iload C (D (24, .iload 4, 2) (mg 14 rfl)) rfl ?_
          refine X_bipush (v := nI (10)) C (D (26, .bipush 10, 2) (mg 15 rfl)) (by decide) ?_
          refine X_idiv C (D (28, .idiv, 1) (mg 16 rfl)) (by decide) ?_
          refine X_ti (y := nI ((j) / (10))) (pk_div (by omega) (by omega) (by omega)) ?_
          refine X_istore (ls' := [some (.ref (wA w (x))), some (.int (y4)), some (.int (b2)), some (.int (b3)), some (.int (nI (j))), some (.int (nI ((j) / (10)))), none, none]) C (D (29, .istore 5, 2) (mg 17 rfl)) (Nat.le_of_ble_eq_true rfl) rfl ?_
          refine X_iload C (D (31, .iload 4, 2) (mg 18 rfl)) rfl ?_
          refine X_bipush (v := nI (10)) C (D (33, .bipush 10, 2) (mg 19 rfl)) (by decide) ?_
          refine X_irem C (D (35, .irem, 1) (mg 20 rfl)) (by decide) ?_
          refine X_ti (y := nI ((j) % (10))) (pk_rem (by omega) (by omega) (by omega)) ?_
          refine X_istore (ls' := [some (.ref (wA w (x))), some (.int (y4)), some (.int (b2)), some (.int (b3)), some (.int (nI (j))), some (.int (nI ((j) / (10)))), some (.int (nI ((j) % (10)))), none]) C (D (36, .istore 6, 2) (mg 21 rfl)) (Nat.le_of_ble_eq_true rfl) rfl ?_
          refine X_iconst (v := nI (0)) C (D (38, .iconst 0, 1) (mg 22 rfl)) (by decide) ?_
          refine X_istore (ls' := [some (.ref (wA w (x))), some (.int (y4)), some (.int (b2)), some (.int (b3)), some (.int (nI (j))), some (.int (nI ((j) / (10)))), some (.int (nI ((j) % (10)))), some (.int (nI (0)))]) C (D (39, .istore 7, 2) (mg 23 rfl)) (Nat.le_of_ble_eq_true rfl) rfl ?_
          have lp41 : ∀ (nn41 : Nat) (i7 : Nat) (hp41 : xI) (gp41 : xJ), (i7 ≤ 6) → (wI x h hp41) → 7 - i7 ≤ nn41 → X k w (Zq k w (pQ (wI x h))) 41 [some (.ref (wA w (x))), some (.int (y4)), some (.int (b2)), some (.int (b3)), some (.int (nI (j))), some (.int (nI ((j) / (10)))), some (.int (nI ((j) % (10)))), some (.int (nI (i7)))] [] hp41 gp41 := by
            intro nn41
            induction nn41 with
            | zero => intro i7 hp41 gp41 hc41_0 hc41_1 hz; exact absurd hz (by omega)
            | succ nn41 ih41 =>
              intro i7 hp41 gp41 hc41_0 hc41_1 hz41
              obtain ⟨c8, hc8, hac8⟩ := (hc41_1).2.1
              refine X_iload C (D (41, .iload 7, 2) (mg 24 rfl)) rfl ?_
              refine X_bipush (v := nI (6)) C (D (43, .bipush 6, 2) (mg 25 rfl)) (by decide) ?_
              refine X_icmp_ge (tgt := 70) C (D (45, .if_icmp .ge 25, 3) (mg 26 rfl)) (by decide) (fun q9 => ?_) (fun q9 => ?_)
              · skip
                have q9 : (i7) ≥ (6) := by have z := (nI_leI (a := (6)) (b := (i7)) (by omega) (by omega)).mp q9; omega
                refine X_aload_n C 0 (D (70, .aload_n 0, 1) (mg 37 rfl)) rfl rfl ?_
                refine X_iload_n C 1 (D (71, .iload_n 1, 1) (mg 38 rfl)) rfl rfl ?_
                refine X_cV (As := [.int (y4)]) (st := []) C (post := _) (x) (by omega) hsx rfl (ct_X7_mostAlike hw hC0 (y4) hp41 gp41 (cOk_w hI hc41_1)) kX7_200 (by decide) (by decide) rfl rfl (Nat.le_of_ble_eq_true rfl) (D (72, .invokevirtual 200, 3) (mg 39 rfl)) rfl (fun v12 H10 G11 hv12 => ?_)
                obtain ⟨⟨y13, rfl⟩, rfl, rfl⟩ := hv12
                show X k w _ 75 [some (.ref (wA w (x))), some (.int (y4)), some (.int (b2)), some (.int (b3)), some (.int (nI (j))), some (.int (nI ((j) / (10)))), some (.int (nI ((j) % (10)))), some (.int (nI (i7)))] [.int (y13)] hp41 gp41
                refine X_istore (ls' := [some (.ref (wA w (x))), some (.int (y4)), some (.int (b2)), some (.int (b3)), some (.int (nI (j))), some (.int (nI ((j) / (10)))), some (.int (nI ((j) % (10)))), some (.int (y13))]) C (D (75, .istore 7, 2) (mg 40 rfl)) (Nat.le_of_ble_eq_true rfl) rfl ?_
                refine X_iload C (D (77, .iload 7, 2) (mg 41 rfl)) rfl ?_
                refine X_iload_n C 2 (D (79, .iload_n 2, 1) (mg 42 rfl)) rfl rfl ?_
                refine X_icmp_ge (tgt := 95) C (D (80, .if_icmp .ge 15, 3) (mg 43 rfl)) (by decide) (fun q14 => ?_) (fun q14 => ?_)
                · skip
                  refine X_iinc (v := nI (j + 1)) (ls' := [some (.ref (wA w (x))), some (.int (y4)), some (.int (b2)), some (.int (b3)), some (.int (nI (j + 1))), some (.int (nI ((j) / (10)))), some (.int (nI ((j) % (10)))), some (.int (y13))]) C (D (95, .iinc 4 1, 3) (mg 52 rfl)) rfl (nI_add (j) 1) rfl ?_
                  refine X_goto (tgt := 13) C (D (98, .goto (-85), 3) (mg 53 rfl)) (by decide) ?_
                  refine X_los (ls' := [some (.ref (wA w (x))), some (.int (y4)), some (.int (b2)), some (.int (b3)), some (.int (nI (j + 1))), none, none, none]) (by simp [lsub]) ?_
                  refine X_eq (ls' := [some (.ref (wA w (x))), some (.int (y4)), some (.int (b2)), some (.int (b3)), some (.int (nI (j + 1))), none, none, none]) (st' := []) (h' := hp41) (g' := gp41) rfl rfl rfl rfl ?_
                  exact ih13 (j + 1) (b2) (b3) (hp41) (gp41) (by omega) hc41_1 (by omega)
                · skip
                  refine X_iload C (D (83, .iload 7, 2) (mg 44 rfl)) rfl ?_
                  refine X_istore_n (ls' := [some (.ref (wA w (x))), some (.int (y4)), some (.int (y13)), some (.int (b3)), some (.int (nI (j))), some (.int (nI ((j) / (10)))), some (.int (nI ((j) % (10)))), some (.int (y13))]) C 2 (D (85, .istore_n 2, 1) (mg 45 rfl)) rfl (Nat.le_of_ble_eq_true rfl) rfl ?_
                  refine X_bipush (v := nI (10)) C (D (86, .bipush 10, 2) (mg 46 rfl)) (by decide) ?_
                  refine X_iload C (D (88, .iload 5, 2) (mg 47 rfl)) rfl ?_
                  refine X_imul C (D (90, .imul, 1) (mg 48 rfl)) ?_
                  refine X_ti (y := nI ((10) * ((j) / (10)))) (pk_mul (10) ((j) / (10))) ?_
                  refine X_iload C (D (91, .iload 6, 2) (mg 49 rfl)) rfl ?_
                  refine X_iadd C (D (93, .iadd, 1) (mg 50 rfl)) ?_
                  refine X_ti (y := nI ((10) * ((j) / (10)) + (j) % (10))) (nI_add ((10) * ((j) / (10))) ((j) % (10))) ?_
                  refine X_istore_n (ls' := [some (.ref (wA w (x))), some (.int (y4)), some (.int (y13)), some (.int (nI ((10) * ((j) / (10)) + (j) % (10)))), some (.int (nI (j))), some (.int (nI ((j) / (10)))), some (.int (nI ((j) % (10)))), some (.int (y13))]) C 3 (D (94, .istore_n 3, 1) (mg 51 rfl)) rfl (Nat.le_of_ble_eq_true rfl) rfl ?_
                  refine X_iinc (v := nI (j + 1)) (ls' := [some (.ref (wA w (x))), some (.int (y4)), some (.int (y13)), some (.int (nI ((10) * ((j) / (10)) + (j) % (10)))), some (.int (nI (j + 1))), some (.int (nI ((j) / (10)))), some (.int (nI ((j) % (10)))), some (.int (y13))]) C (D (95, .iinc 4 1, 3) (mg 52 rfl)) rfl (nI_add (j) 1) rfl ?_
                  refine X_goto (tgt := 13) C (D (98, .goto (-85), 3) (mg 53 rfl)) (by decide) ?_
                  refine X_los (ls' := [some (.ref (wA w (x))), some (.int (y4)), some (.int (y13)), some (.int (nI ((10) * ((j) / (10)) + (j) % (10)))), some (.int (nI (j + 1))), none, none, none]) (by simp [lsub]) ?_
                  refine X_eq (ls' := [some (.ref (wA w (x))), some (.int (y4)), some (.int (y13)), some (.int (nI ((10) * ((j) / (10)) + (j) % (10)))), some (.int (nI (j + 1))), none, none, none]) (st' := []) (h' := hp41) (g' := gp41) rfl rfl rfl rfl ?_
                  exact ih13 (j + 1) (y13) (nI ((10) * ((j) / (10)) + (j) % (10))) (hp41) (gp41) (by omega) hc41_1 (by omega)
              · skip
                have q9 : (i7) < (6) := by have z : ¬ ((6) ≤ (i7)) := fun u => q9 ((nI_leI (a := (6)) (b := (i7)) (by omega) (by omega)).mpr u); omega
                refine X_aload_n C 0 (D (48, .aload_n 0, 1) (mg 27 rfl)) rfl rfl ?_
                refine X_get (v := .ref (wA w (x + 38))) C (x) 6 (by omega) hsx rfl rfl (by decide) inX7 fX7_45 rfl (D (49, .getfield 45, 3) (mg 28 rfl)) rfl ?_
                refine X_iload C (D (52, .iload 7, 2) (mg 29 rfl)) rfl ?_
                refine X_iload C (D (54, .iload 7, 2) (mg 30 rfl)) rfl ?_
                refine X_iload C (D (56, .iload 6, 2) (mg 31 rfl)) rfl ?_
                refine X_iload C (D (58, .iload 5, 2) (mg 32 rfl)) rfl ?_
                refine X_cS (As := [.int (nI (i7)), .int (nI ((j) % (10))), .int (nI ((j) / (10)))]) (st := [.int (nI (i7)), .ref (wA w (x + 38))]) C (post := _) (ct_X0_dragsBy hw (nI (i7)) (nI ((j) % (10))) (nI ((j) / (10))) hp41 gp41) kX7_212 (by decide) (by decide) rfl rfl (Nat.le_of_ble_eq_true rfl) (D (60, .invokestatic 212, 3) (mg 33 rfl)) rfl (fun v17 H15 G16 hv17 => ?_)
                obtain ⟨rfl, rfl, rfl⟩ := hv17
                show X k w _ 63 [some (.ref (wA w (x))), some (.int (y4)), some (.int (b2)), some (.int (b3)), some (.int (nI (j))), some (.int (nI ((j) / (10)))), some (.int (nI ((j) % (10)))), some (.int (nI (i7)))] [.int (deC (nI (i7)) (nI ((j) % (10))) (nI ((j) / (10)))), .int (nI (i7)), .ref (wA w (x + 38))] hp41 gp41
                refine X_iast (j := i7) C (x + 38) (by omega) hsv (vp_in_nI (by omega) (by omega)) (D (63, .iastore, 1) (mg 34 rfl)) (nI_clamp (by omega)) ?_
                refine X_iinc (v := nI (i7 + 1)) (ls' := [some (.ref (wA w (x))), some (.int (y4)), some (.int (b2)), some (.int (b3)), some (.int (nI (j))), some (.int (nI ((j) / (10)))), some (.int (nI ((j) % (10)))), some (.int (nI (i7 + 1)))]) C (D (64, .iinc 7 1, 3) (mg 35 rfl)) rfl (nI_add (i7) 1) rfl ?_
                refine X_goto (tgt := 41) C (D (67, .goto (-26), 3) (mg 36 rfl)) (by decide) ?_
                refine X_eq (ls' := [some (.ref (wA w (x))), some (.int (y4)), some (.int (b2)), some (.int (b3)), some (.int (nI (j))), some (.int (nI ((j) / (10)))), some (.int (nI ((j) % (10)))), some (.int (nI (i7 + 1)))]) (st' := []) (h' := (u2 hp41 (x + 38) (i7) (deC (nI (i7)) (nI ((j) % (10))) (nI ((j) / (10)))))) (g' := gp41) rfl rfl rfl rfl ?_
                exact ih41 (i7 + 1) ((u2 hp41 (x + 38) (i7) (deC (nI (i7)) (nI ((j) % (10))) (nI ((j) / (10)))))) (gp41) (by omega) ⟨fun q i z0 => by have z := z0; unfold SW at z; rw [u2_ne _ _ _ _ (by omega)]; exact (hc41_1).1 q i z0, ⟨c8, (by omega), (((u2_p _ _ _ _ (by omega))).trans hac8)⟩, (paOk_k (fun q i z => by rw [u2_ne _ _ _ _ (by omega)]) (hc41_1).2.2)⟩ (by omega)
          refine X_eq (ls' := [some (.ref (wA w (x))), some (.int (y4)), some (.int (b2)), some (.int (b3)), some (.int (nI (j))), some (.int (nI ((j) / (10)))), some (.int (nI ((j) % (10)))), some (.int (nI (0)))]) (st' := []) (h' := hp13) (g' := gp13) rfl rfl rfl rfl ?_
          exact lp41 _ (0) (hp13) (gp13) (by omega) hc13_1 (Nat.le_refl _)
  refine X_eq (ls' := [some (.ref (wA w (x))), some (.int (y4)), some (.int (nI (7))), some (.int ((-1 : Int32))), some (.int (nI (0))), none, none, none]) (st' := []) (h' := h) (g' := g) rfl rfl rfl rfl ?_
  exact lp13 _ (0) (nI (7)) ((-1 : Int32)) (h) (g) (by omega) (wI_r hI) (Nat.le_refl _)
set_option maxHeartbeats 4000000 in
set_option maxRecDepth 100000 in
theorem ct_X7_deep {l : Launch} {w : Kw} (hw : wOk w) {x : Nat} (hC : shC w x) (a1 a2 : Int32) (h : xI) (g : xJ) (hI : cOk h x) : Ct l w yX7_deep cX7_deep 5 (some .int) 2 48 [.ref (wA w (x)), .int (a1), .int (a2)] h g (pQ (wI x h)) := by
  refine Ct_of (ls := [some (.ref (wA w (x))), some (.int (a1)), some (.int (a2)), none, none]) (by decide) hw (Nat.le_of_ble_eq_true rfl) rfl (fun k hkl C => ?_)
  have C : Cx k w cX7_deep RX7 5 (some .int) 2 48 := C
  have D := dtX7_deep
  subst hkl
  have hC0 := hC
  obtain ⟨hxn, hsx, hT, hsi, hTa, hTb, hsk, hNs, hY, hX, hsv⟩ := hC
  have hY2 := hY.1
  have hX2 := hX.1
  have hI0 := hI
  obtain ⟨⟨⟨c0, hc0, hat⟩, hpa, ⟨ns, hns, hse⟩, ⟨nm, hnm, hma⟩⟩, -, -, ⟨nt, hnt, htx⟩, ⟨ct, hct, hatx⟩⟩ := hI
  have hI := hI0
  refine X_iload_n C 1 (D (0, .iload_n 1, 1) (mg 0 rfl)) rfl rfl ?_
  refine X_bipush (v := nI (25)) C (D (1, .bipush 25, 2) (mg 1 rfl)) (by decide) ?_
  refine X_cS (As := [.int (a1), .int (nI (25))]) (st := []) C (post := _) (ct_X7_isBelow hw (a1) (B := 25) (by decide) h g) kX7_53 (by decide) (by decide) rfl rfl (Nat.le_of_ble_eq_true rfl) (D (3, .invokestatic 53, 3) (mg 2 rfl)) rfl (fun v3 H1 G2 hv3 => ?_)
  obtain ⟨rfl, rfl, rfl⟩ := hv3
  show X k w _ 6 [some (.ref (wA w (x))), some (.int (a1)), some (.int (a2)), none, none] [.int (if 0 ≤ (a1).toInt ∧ (a1).toInt < ((25 : Nat) : Int) then 1 else 0)] h g
  refine X_if_eq (tgt := 18) C (D (6, .ifCond .eq 12, 3) (mg 3 rfl)) (by decide) (fun q4 => ?_) (fun q4 => ?_)
  · skip
    have q4 : ¬ (0 ≤ (a1).toInt ∧ (a1).toInt < ((25 : Nat) : Int)) := bz0.mp q4
    refine X_aload_n C 0 (D (18, .aload_n 0, 1) (mg 8 rfl)) rfl rfl ?_
    refine X_cV (As := []) (st := []) C (post := _) (x) (by omega) hsx rfl (ct_X7_refuseBad hw hC0 h g) kX7_57 (by decide) (by decide) rfl rfl (Nat.le_of_ble_eq_true rfl) (D (19, .invokevirtual 57, 3) (mg 9 rfl)) rfl (fun v7 H5 G6 hv7 => ?_)
    obtain ⟨rfl, rfl, rfl⟩ := hv7
    show X k w _ 22 [some (.ref (wA w (x))), some (.int (a1)), some (.int (a2)), none, none] [.int ((-2 : Int32))] (rcH h (x) 9) g
    exact X_iret C (D (22, .ireturn, 1) (mg 10 rfl)) ⟨⟨_, rfl⟩, ⟨fun q i z0 => by have z := z0; unfold SW at z; rw [rcH_ne _ _ _ (by omega)], ⟨c0, (by omega), (((rcH_ne _ _ _ (by omega))).trans hat)⟩, (paOk_k (fun q i z => by rw [rcH_ne _ _ _ (by omega)]) hpa)⟩⟩
  · skip
    have q4 : (0 ≤ (a1).toInt ∧ (a1).toInt < ((25 : Nat) : Int)) := bz1.mp q4
    obtain ⟨n8, hn8, rfl⟩ := nI_i (x := a1) (n := 25) q4.1 (by omega)
    refine X_iload_n C 2 (D (9, .iload_n 2, 1) (mg 4 rfl)) rfl rfl ?_
    refine X_bipush (v := nI (10)) C (D (10, .bipush 10, 2) (mg 5 rfl)) (by decide) ?_
    refine X_cS (As := [.int (a2), .int (nI (10))]) (st := []) C (post := _) (ct_X7_isBelow hw (a2) (B := 10) (by decide) h g) kX7_53 (by decide) (by decide) rfl rfl (Nat.le_of_ble_eq_true rfl) (D (12, .invokestatic 53, 3) (mg 6 rfl)) rfl (fun v11 H9 G10 hv11 => ?_)
    obtain ⟨rfl, rfl, rfl⟩ := hv11
    show X k w _ 15 [some (.ref (wA w (x))), some (.int (nI (n8))), some (.int (a2)), none, none] [.int (if 0 ≤ (a2).toInt ∧ (a2).toInt < ((10 : Nat) : Int) then 1 else 0)] h g
    refine X_if_ne (tgt := 23) C (D (15, .ifCond .ne 8, 3) (mg 7 rfl)) (by decide) (fun q12 => ?_) (fun q12 => ?_)
    · skip
      have q12 : (0 ≤ (a2).toInt ∧ (a2).toInt < ((10 : Nat) : Int)) := bz1.mp q12
      refine X_iconst (v := nI (0)) C (D (23, .iconst 0, 1) (mg 11 rfl)) (by decide) ?_
      refine X_istore_n (ls' := [some (.ref (wA w (x))), some (.int (nI (n8))), some (.int (a2)), some (.int (nI (0))), none]) C 3 (D (24, .istore_n 3, 1) (mg 12 rfl)) rfl (Nat.le_of_ble_eq_true rfl) rfl ?_
      refine X_iconst (v := nI (0)) C (D (25, .iconst 0, 1) (mg 13 rfl)) (by decide) ?_
      refine X_istore (ls' := [some (.ref (wA w (x))), some (.int (nI (n8))), some (.int (a2)), some (.int (nI (0))), some (.int (nI (0)))]) C (D (26, .istore 4, 2) (mg 14 rfl)) (Nat.le_of_ble_eq_true rfl) rfl ?_
      have lp28 : ∀ (nn28 : Nat) (j : Nat) (b : Int32), (j ≤ 10) → 11 - j ≤ nn28 → X k w (Zq k w (pQ (wI x h))) 28 [some (.ref (wA w (x))), some (.int (nI (n8))), some (.int (a2)), some (.int (b)), some (.int (nI (j)))] [] h g := by
        intro nn28
        induction nn28 with
        | zero => intro j b hc28_0 hz; exact absurd hz (by omega)
        | succ nn28 ih28 =>
          intro j b hc28_0 hz28
          refine X_iload C (D (28, .iload 4, 2) (mg 15 rfl)) rfl ?_
          refine X_bipush (v := nI (10)) C (D (30, .bipush 10, 2) (mg 16 rfl)) (by decide) ?_
          refine X_icmp_ge (tgt := 79) C (D (32, .if_icmp .ge 47, 3) (mg 17 rfl)) (by decide) (fun q13 => ?_) (fun q13 => ?_)
          · skip
            have q13 : (j) ≥ (10) := by have z := (nI_leI (a := (10)) (b := (j)) (by omega) (by omega)).mp q13; omega
            refine X_iload_n C 3 (D (79, .iload_n 3, 1) (mg 40 rfl)) rfl rfl ?_
            exact X_iret C (D (80, .ireturn, 1) (mg 41 rfl)) ⟨⟨_, rfl⟩, (wI_r hI)⟩
          · skip
            have q13 : (j) < (10) := by have z : ¬ ((10) ≤ (j)) := fun u => q13 ((nI_leI (a := (10)) (b := (j)) (by omega) (by omega)).mpr u); omega
            refine X_aload_n C 0 (D (35, .aload_n 0, 1) (mg 18 rfl)) rfl rfl ?_
            refine X_get (v := .ref (wA w (x + 1))) C (x) 0 (by omega) hsx rfl rfl (by decide) inX7 fX7_10 rfl (D (36, .getfield 10, 3) (mg 19 rfl)) rfl ?_
            refine X_get (v := .ref (wA w (x + 2))) C (x + 1) 0 (by omega) hT.2.1 rfl rfl (by decide) inX4 fX7_61 rfl (D (39, .getfield 61, 3) (mg 20 rfl)) rfl ?_
            refine X_get (v := .int (h (x + 2) 2)) C (x + 2) 2 (by omega) hT.2.2.1.2.1 rfl rfl (by decide) inX1 fX7_74 rfl (D (42, .getfield 74, 3) (mg 21 rfl)) rfl ?_
            refine X_iload C (D (45, .iload 4, 2) (mg 22 rfl)) rfl ?_
            refine X_aload_n C 0 (D (47, .aload_n 0, 1) (mg 23 rfl)) rfl rfl ?_
            refine X_get (v := .ref (wA w (x + 1))) C (x) 0 (by omega) hsx rfl rfl (by decide) inX7 fX7_10 rfl (D (48, .getfield 10, 3) (mg 24 rfl)) rfl ?_
            refine X_get (v := .ref (wA w (x + 2))) C (x + 1) 0 (by omega) hT.2.1 rfl rfl (by decide) inX4 fX7_61 rfl (D (51, .getfield 61, 3) (mg 25 rfl)) rfl ?_
            refine X_get (v := .ref (wA w (x + 3))) C (x + 2) 0 (by omega) hT.2.2.1.2.1 rfl rfl (by decide) inX1 fX7_87 rfl (D (54, .getfield 87, 3) (mg 26 rfl)) rfl ?_
            refine X_iload_n C 1 (D (57, .iload_n 1, 1) (mg 27 rfl)) rfl rfl ?_
            refine X_iald (v := h (x + 3) (n8)) C (x + 3) (by omega) hT.2.2.1.2.2.1 (vp_in_nI (by omega) (by omega)) (D (58, .iaload, 1) (mg 28 rfl)) (by rw [nI_clamp (by omega)]) ?_
            refine X_cS (As := [.int (h (x + 2) 2), .int (nI (j)), .int (h (x + 3) (n8))]) (st := []) C (post := _) (ct_X0_depthAfter hw (h (x + 2) 2) (nI (j)) (h (x + 3) (n8)) h g) kX7_217 (by decide) (by decide) rfl rfl (Nat.le_of_ble_eq_true rfl) (D (59, .invokestatic 217, 3) (mg 29 rfl)) rfl (fun v16 H14 G15 hv16 => ?_)
            obtain ⟨rfl, rfl, rfl⟩ := hv16
            show X k w _ 62 [some (.ref (wA w (x))), some (.int (nI (n8))), some (.int (a2)), some (.int (b)), some (.int (nI (j)))] [.int (daC (h (x + 2) 2) (nI (j)) (h (x + 3) (n8)))] h g
            refine X_iload_n C 2 (D (62, .iload_n 2, 1) (mg 30 rfl)) rfl rfl ?_
            refine X_icmp_ne (tgt := 73) C (D (63, .if_icmp .ne 10, 3) (mg 31 rfl)) (by decide) (fun q17 => ?_) (fun q17 => ?_)
            · skip
              refine X_iinc (v := nI (j + 1)) (ls' := [some (.ref (wA w (x))), some (.int (nI (n8))), some (.int (a2)), some (.int (b)), some (.int (nI (j + 1)))]) C (D (73, .iinc 4 1, 3) (mg 38 rfl)) rfl (nI_add (j) 1) rfl ?_
              refine X_goto (tgt := 28) C (D (76, .goto (-48), 3) (mg 39 rfl)) (by decide) ?_
              refine X_eq (ls' := [some (.ref (wA w (x))), some (.int (nI (n8))), some (.int (a2)), some (.int (b)), some (.int (nI (j + 1)))]) (st' := []) (h' := h) (g' := g) rfl rfl rfl rfl ?_
              exact ih28 (j + 1) (b) (by omega) (by omega)
            · skip
              refine X_iload_n C 3 (D (66, .iload_n 3, 1) (mg 32 rfl)) rfl rfl ?_
              refine X_iconst (v := nI (1)) C (D (67, .iconst 1, 1) (mg 33 rfl)) (by decide) ?_
              refine X_iload C (D (68, .iload 4, 2) (mg 34 rfl)) rfl ?_
              refine X_ishl C (D (70, .ishl, 1) (mg 35 rfl)) ?_
              refine X_ior C (D (71, .ior, 1) (mg 36 rfl)) ?_
              refine X_istore_n (ls' := [some (.ref (wA w (x))), some (.int (nI (n8))), some (.int (a2)), some (.int (b ||| ((nI (1)) <<< ((nI (j)) &&& 31)))), some (.int (nI (j)))]) C 3 (D (72, .istore_n 3, 1) (mg 37 rfl)) rfl (Nat.le_of_ble_eq_true rfl) rfl ?_
              refine X_iinc (v := nI (j + 1)) (ls' := [some (.ref (wA w (x))), some (.int (nI (n8))), some (.int (a2)), some (.int (b ||| ((nI (1)) <<< ((nI (j)) &&& 31)))), some (.int (nI (j + 1)))]) C (D (73, .iinc 4 1, 3) (mg 38 rfl)) rfl (nI_add (j) 1) rfl ?_
              refine X_goto (tgt := 28) C (D (76, .goto (-48), 3) (mg 39 rfl)) (by decide) ?_
              refine X_eq (ls' := [some (.ref (wA w (x))), some (.int (nI (n8))), some (.int (a2)), some (.int (b ||| ((nI (1)) <<< ((nI (j)) &&& 31)))), some (.int (nI (j + 1)))]) (st' := []) (h' := h) (g' := g) rfl rfl rfl rfl ?_
              exact ih28 (j + 1) (b ||| ((nI (1)) <<< ((nI (j)) &&& 31))) (by omega) (by omega)
      refine X_eq (ls' := [some (.ref (wA w (x))), some (.int (nI (n8))), some (.int (a2)), some (.int (nI (0))), some (.int (nI (0)))]) (st' := []) (h' := h) (g' := g) rfl rfl rfl rfl ?_
      exact lp28 _ (0) (nI (0)) (by omega) (Nat.le_refl _)
    · skip
      have q12 : ¬ (0 ≤ (a2).toInt ∧ (a2).toInt < ((10 : Nat) : Int)) := bz0.mp q12
      refine X_aload_n C 0 (D (18, .aload_n 0, 1) (mg 8 rfl)) rfl rfl ?_
      refine X_cV (As := []) (st := []) C (post := _) (x) (by omega) hsx rfl (ct_X7_refuseBad hw hC0 h g) kX7_57 (by decide) (by decide) rfl rfl (Nat.le_of_ble_eq_true rfl) (D (19, .invokevirtual 57, 3) (mg 9 rfl)) rfl (fun v20 H18 G19 hv20 => ?_)
      obtain ⟨rfl, rfl, rfl⟩ := hv20
      show X k w _ 22 [some (.ref (wA w (x))), some (.int (nI (n8))), some (.int (a2)), none, none] [.int ((-2 : Int32))] (rcH h (x) 9) g
      exact X_iret C (D (22, .ireturn, 1) (mg 10 rfl)) ⟨⟨_, rfl⟩, ⟨fun q i z0 => by have z := z0; unfold SW at z; rw [rcH_ne _ _ _ (by omega)], ⟨c0, (by omega), (((rcH_ne _ _ _ (by omega))).trans hat)⟩, (paOk_k (fun q i z => by rw [rcH_ne _ _ _ (by omega)]) hpa)⟩⟩
set_option maxHeartbeats 4000000 in
set_option maxRecDepth 100000 in
theorem ct_X7_sparrowGets {l : Launch} {w : Kw} (hw : wOk w) {x : Nat} (hC : shC w x) {r1 : Nat} (hr1 : r1 < 5) {i1 : Nat} (hi1 : i1 < 5) {j1 : Nat} (hj1 : j1 < 5) (h : xI) (g : xJ) (hI : cOk h x) : Ct l w yX7_sparrowGets cX7_sparrowGets 4 (some .int) 2 42 [.ref (wA w (x)), .int (nI (r1)), .int (nI (i1)), .int (nI (j1))] h g (pI h g) := by
  refine Ct_of (ls := [some (.ref (wA w (x))), some (.int (nI (r1))), some (.int (nI (i1))), some (.int (nI (j1)))]) (by decide) hw (Nat.le_of_ble_eq_true rfl) rfl (fun k hkl C => ?_)
  have C : Cx k w cX7_sparrowGets RX7 4 (some .int) 2 42 := C
  have D := dtX7_sparrowGets
  subst hkl
  have hC0 := hC
  obtain ⟨hxn, hsx, hT, hsi, hTa, hTb, hsk, hNs, hY, hX, hsv⟩ := hC
  have hY2 := hY.1
  have hX2 := hX.1
  have hI0 := hI
  obtain ⟨⟨⟨c0, hc0, hat⟩, hpa, ⟨ns, hns, hse⟩, ⟨nm, hnm, hma⟩⟩, -, -, ⟨nt, hnt, htx⟩, ⟨ct, hct, hatx⟩⟩ := hI
  have hI := hI0
  refine X_iload_n C 2 (D (0, .iload_n 2, 1) (mg 0 rfl)) rfl rfl ?_
  refine X_iload_n C 3 (D (1, .iload_n 3, 1) (mg 1 rfl)) rfl rfl ?_
  refine X_icmp_eq (tgt := 27) C (D (2, .if_icmp .eq 25, 3) (mg 2 rfl)) (by decide) (fun q1 => ?_) (fun q1 => ?_)
  · skip
    have q1 : (i1) = (j1) := by have z := (nI_eq (a := (i1)) (b := (j1)) (by omega) (by omega)).mp q1; omega
    refine X_iconst (v := (-1 : Int32)) C (D (27, .iconst (-1), 1) (mg 15 rfl)) (by decide) ?_
    exact X_iret C (D (28, .ireturn, 1) (mg 16 rfl)) ⟨⟨_, rfl⟩, rfl, rfl⟩
  · skip
    have q1 : (i1) ≠ (j1) := by have z : ¬ ((i1) = (j1)) := fun u => q1 ((nI_eq (a := (i1)) (b := (j1)) (by omega) (by omega)).mpr u); omega
    refine X_aload_n C 0 (D (5, .aload_n 0, 1) (mg 3 rfl)) rfl rfl ?_
    refine X_get (v := .ref (wA w (x + 1))) C (x) 0 (by omega) hsx rfl rfl (by decide) inX7 fX7_10 rfl (D (6, .getfield 10, 3) (mg 4 rfl)) rfl ?_
    refine X_get (v := .ref (wA w (x + 2))) C (x + 1) 0 (by omega) hT.2.1 rfl rfl (by decide) inX4 fX7_61 rfl (D (9, .getfield 61, 3) (mg 5 rfl)) rfl ?_
    refine X_iload_n C 1 (D (12, .iload_n 1, 1) (mg 6 rfl)) rfl rfl ?_
    refine X_iconst (v := nI (5)) C (D (13, .iconst 5, 1) (mg 7 rfl)) (by decide) ?_
    refine X_imul C (D (14, .imul, 1) (mg 8 rfl)) ?_
    refine X_ti (y := nI ((r1) * (5))) (pk_mul (r1) (5)) ?_
    refine X_iload_n C 3 (D (15, .iload_n 3, 1) (mg 9 rfl)) rfl rfl ?_
    refine X_iadd C (D (16, .iadd, 1) (mg 10 rfl)) ?_
    refine X_ti (y := nI ((r1) * (5) + j1)) (nI_add ((r1) * (5)) (j1)) ?_
    refine X_cV (As := [.int (nI ((r1) * (5) + j1))]) (st := []) C (post := _) (x + 2) (by omega) hT.2.2.1.2.1 rfl (ct_X1_depthIn hw (n := x + 2) hT.2.2.1 (j := (r1) * (5) + j1) (by omega) h g) kX7_151 (by decide) (by decide) rfl rfl (Nat.le_of_ble_eq_true rfl) (D (17, .invokevirtual 151, 3) (mg 11 rfl)) rfl (fun v4 H2 G3 hv4 => ?_)
    obtain ⟨rfl, rfl, rfl⟩ := hv4
    show X k w _ 20 [some (.ref (wA w (x))), some (.int (nI (r1))), some (.int (nI (i1))), some (.int (nI (j1)))] [.int (cD (h (x + 4) ((r1) * (5) + j1)))] h g
    refine X_if_ne (tgt := 27) C (D (20, .ifCond .ne 7, 3) (mg 12 rfl)) (by decide) (fun q5 => ?_) (fun q5 => ?_)
    · skip
      refine X_iconst (v := (-1 : Int32)) C (D (27, .iconst (-1), 1) (mg 15 rfl)) (by decide) ?_
      exact X_iret C (D (28, .ireturn, 1) (mg 16 rfl)) ⟨⟨_, rfl⟩, rfl, rfl⟩
    · skip
      refine X_iconst (v := nI (5)) C (D (23, .iconst 5, 1) (mg 13 rfl)) (by decide) ?_
      refine X_goto (tgt := 28) C (D (24, .goto 4, 3) (mg 14 rfl)) (by decide) ?_
      exact X_iret C (D (28, .ireturn, 1) (mg 16 rfl)) ⟨⟨_, rfl⟩, rfl, rfl⟩
set_option maxHeartbeats 4000000 in
set_option maxRecDepth 100000 in
theorem ct_X7_curateGets {l : Launch} {w : Kw} (hw : wOk w) {x : Nat} (hC : shC w x) {r1 : Nat} (hr1 : r1 < 5) {i1 : Nat} (hi1 : i1 < 5) {j1 : Nat} (hj1 : j1 < 5) (h : xI) (g : xJ) (hI : cOk h x) : Ct l w yX7_curateGets cX7_curateGets 5 (some .int) 3 65 [.ref (wA w (x)), .int (nI (r1)), .int (nI (i1)), .int (nI (j1))] h g (pI h g) := by
  refine Ct_of (ls := [some (.ref (wA w (x))), some (.int (nI (r1))), some (.int (nI (i1))), some (.int (nI (j1))), none]) (by decide) hw (Nat.le_of_ble_eq_true rfl) rfl (fun k hkl C => ?_)
  have C : Cx k w cX7_curateGets RX7 5 (some .int) 3 65 := C
  have D := dtX7_curateGets
  subst hkl
  have hC0 := hC
  obtain ⟨hxn, hsx, hT, hsi, hTa, hTb, hsk, hNs, hY, hX, hsv⟩ := hC
  have hY2 := hY.1
  have hX2 := hX.1
  have hI0 := hI
  obtain ⟨⟨⟨c0, hc0, hat⟩, hpa, ⟨ns, hns, hse⟩, ⟨nm, hnm, hma⟩⟩, -, -, ⟨nt, hnt, htx⟩, ⟨ct, hct, hatx⟩⟩ := hI
  have hI := hI0
  refine X_aload_n C 0 (D (0, .aload_n 0, 1) (mg 0 rfl)) rfl rfl ?_
  refine X_get (v := .ref (wA w (x + 1))) C (x) 0 (by omega) hsx rfl rfl (by decide) inX7 fX7_10 rfl (D (1, .getfield 10, 3) (mg 1 rfl)) rfl ?_
  refine X_get (v := .ref (wA w (x + 2))) C (x + 1) 0 (by omega) hT.2.1 rfl rfl (by decide) inX4 fX7_61 rfl (D (4, .getfield 61, 3) (mg 2 rfl)) rfl ?_
  refine X_iload_n C 1 (D (7, .iload_n 1, 1) (mg 3 rfl)) rfl rfl ?_
  refine X_iconst (v := nI (5)) C (D (8, .iconst 5, 1) (mg 4 rfl)) (by decide) ?_
  refine X_imul C (D (9, .imul, 1) (mg 5 rfl)) ?_
  refine X_ti (y := nI ((r1) * (5))) (pk_mul (r1) (5)) ?_
  refine X_iload_n C 2 (D (10, .iload_n 2, 1) (mg 6 rfl)) rfl rfl ?_
  refine X_iadd C (D (11, .iadd, 1) (mg 7 rfl)) ?_
  refine X_ti (y := nI ((r1) * (5) + i1)) (nI_add ((r1) * (5)) (i1)) ?_
  refine X_cV (As := [.int (nI ((r1) * (5) + i1))]) (st := []) C (post := _) (x + 2) (by omega) hT.2.2.1.2.1 rfl (ct_X1_liesIn hw (n := x + 2) hT.2.2.1 (j := (r1) * (5) + i1) (by omega) h g) kX7_105 (by decide) (by decide) rfl rfl (Nat.le_of_ble_eq_true rfl) (D (12, .invokevirtual 105, 3) (mg 8 rfl)) rfl (fun v3 H1 G2 hv3 => ?_)
  obtain ⟨rfl, rfl, rfl⟩ := hv3
  show X k w _ 15 [some (.ref (wA w (x))), some (.int (nI (r1))), some (.int (nI (i1))), some (.int (nI (j1))), none] [.int (if ¬ h (x + 4) ((r1) * (5) + i1) = (-1 : Int32) then 1 else 0)] h g
  refine X_if_eq (tgt := 22) C (D (15, .ifCond .eq 7, 3) (mg 9 rfl)) (by decide) (fun q4 => ?_) (fun q4 => ?_)
  · skip
    have q4 : ¬ (¬ h (x + 4) ((r1) * (5) + i1) = (-1 : Int32)) := bz0.mp q4
    refine X_iconst (v := nI (0)) C (D (22, .iconst 0, 1) (mg 12 rfl)) (by decide) ?_
    refine X_istore (ls' := [some (.ref (wA w (x))), some (.int (nI (r1))), some (.int (nI (i1))), some (.int (nI (j1))), some (.int (nI (0)))]) C (D (23, .istore 4, 2) (mg 13 rfl)) (Nat.le_of_ble_eq_true rfl) rfl ?_
    refine X_aload_n C 0 (D (25, .aload_n 0, 1) (mg 14 rfl)) rfl rfl ?_
    refine X_iload_n C 1 (D (26, .iload_n 1, 1) (mg 15 rfl)) rfl rfl ?_
    refine X_iload_n C 2 (D (27, .iload_n 2, 1) (mg 16 rfl)) rfl rfl ?_
    refine X_iload_n C 3 (D (28, .iload_n 3, 1) (mg 17 rfl)) rfl rfl ?_
    refine X_cV (As := [.int (nI (r1)), .int (nI (i1)), .int (nI (j1))]) (st := []) C (post := _) (x) (by omega) hsx rfl (ct_X7_sparrowGets hw hC0 (r1 := r1) (by omega) (i1 := i1) (by omega) (j1 := j1) (by omega) h g hI) kX7_280 (by decide) (by decide) rfl rfl (Nat.le_of_ble_eq_true rfl) (D (29, .invokevirtual 280, 3) (mg 18 rfl)) rfl (fun v7 H5 G6 hv7 => ?_)
    obtain ⟨⟨y8, rfl⟩, rfl, rfl⟩ := hv7
    show X k w _ 32 [some (.ref (wA w (x))), some (.int (nI (r1))), some (.int (nI (i1))), some (.int (nI (j1))), some (.int (nI (0)))] [.int (y8)] h g
    refine X_iconst (v := nI (5)) C (D (32, .iconst 5, 1) (mg 19 rfl)) (by decide) ?_
    refine X_icmp_ne (tgt := 43) C (D (33, .if_icmp .ne 10, 3) (mg 20 rfl)) (by decide) (fun q9 => ?_) (fun q9 => ?_)
    · skip
      refine X_iload C (D (43, .iload 4, 2) (mg 25 rfl)) rfl ?_
      exact X_iret C (D (45, .ireturn, 1) (mg 26 rfl)) ⟨⟨_, rfl⟩, rfl, rfl⟩
    · skip
      refine X_iload C (D (36, .iload 4, 2) (mg 21 rfl)) rfl ?_
      refine X_iconst (v := nI (2)) C (D (38, .iconst 2, 1) (mg 22 rfl)) (by decide) ?_
      refine X_isub C (D (39, .isub, 1) (mg 23 rfl)) ?_
      refine X_goto (tgt := 45) C (D (40, .goto 5, 3) (mg 24 rfl)) (by decide) ?_
      exact X_iret C (D (45, .ireturn, 1) (mg 26 rfl)) ⟨⟨_, rfl⟩, rfl, rfl⟩
  · skip
    have q4 : (¬ h (x + 4) ((r1) * (5) + i1) = (-1 : Int32)) := bz1.mp q4
    refine X_iconst (v := nI (4)) C (D (18, .iconst 4, 1) (mg 10 rfl)) (by decide) ?_
    refine X_goto (tgt := 23) C (D (19, .goto 4, 3) (mg 11 rfl)) (by decide) ?_
    refine X_istore (ls' := [some (.ref (wA w (x))), some (.int (nI (r1))), some (.int (nI (i1))), some (.int (nI (j1))), some (.int (nI (4)))]) C (D (23, .istore 4, 2) (mg 13 rfl)) (Nat.le_of_ble_eq_true rfl) rfl ?_
    refine X_aload_n C 0 (D (25, .aload_n 0, 1) (mg 14 rfl)) rfl rfl ?_
    refine X_iload_n C 1 (D (26, .iload_n 1, 1) (mg 15 rfl)) rfl rfl ?_
    refine X_iload_n C 2 (D (27, .iload_n 2, 1) (mg 16 rfl)) rfl rfl ?_
    refine X_iload_n C 3 (D (28, .iload_n 3, 1) (mg 17 rfl)) rfl rfl ?_
    refine X_cV (As := [.int (nI (r1)), .int (nI (i1)), .int (nI (j1))]) (st := []) C (post := _) (x) (by omega) hsx rfl (ct_X7_sparrowGets hw hC0 (r1 := r1) (by omega) (i1 := i1) (by omega) (j1 := j1) (by omega) h g hI) kX7_280 (by decide) (by decide) rfl rfl (Nat.le_of_ble_eq_true rfl) (D (29, .invokevirtual 280, 3) (mg 18 rfl)) rfl (fun v12 H10 G11 hv12 => ?_)
    obtain ⟨⟨y13, rfl⟩, rfl, rfl⟩ := hv12
    show X k w _ 32 [some (.ref (wA w (x))), some (.int (nI (r1))), some (.int (nI (i1))), some (.int (nI (j1))), some (.int (nI (4)))] [.int (y13)] h g
    refine X_iconst (v := nI (5)) C (D (32, .iconst 5, 1) (mg 19 rfl)) (by decide) ?_
    refine X_icmp_ne (tgt := 43) C (D (33, .if_icmp .ne 10, 3) (mg 20 rfl)) (by decide) (fun q14 => ?_) (fun q14 => ?_)
    · skip
      refine X_iload C (D (43, .iload 4, 2) (mg 25 rfl)) rfl ?_
      exact X_iret C (D (45, .ireturn, 1) (mg 26 rfl)) ⟨⟨_, rfl⟩, rfl, rfl⟩
    · skip
      refine X_iload C (D (36, .iload 4, 2) (mg 21 rfl)) rfl ?_
      refine X_iconst (v := nI (2)) C (D (38, .iconst 2, 1) (mg 22 rfl)) (by decide) ?_
      refine X_isub C (D (39, .isub, 1) (mg 23 rfl)) ?_
      refine X_goto (tgt := 45) C (D (40, .goto 5, 3) (mg 24 rfl)) (by decide) ?_
      exact X_iret C (D (45, .ireturn, 1) (mg 26 rfl)) ⟨⟨_, rfl⟩, rfl, rfl⟩
set_option maxHeartbeats 4000000 in
set_option maxRecDepth 100000 in
theorem ct_X7_rests {l : Launch} {w : Kw} (hw : wOk w) {x : Nat} (hC : shC w x) {r1 : Nat} (hr1 : r1 < 5) {i1 : Nat} (hi1 : i1 < 5) {j1 : Nat} (hj1 : j1 < 5) (h : xI) (g : xJ) (hI : cOk h x) : Ct l w yX7_rests cX7_rests 5 (some .boolean) 4 89 [.ref (wA w (x)), .int (nI (r1)), .int (nI (i1)), .int (nI (j1))] h g (pI h g) := by
  refine Ct_of (ls := [some (.ref (wA w (x))), some (.int (nI (r1))), some (.int (nI (i1))), some (.int (nI (j1))), none]) (by decide) hw (Nat.le_of_ble_eq_true rfl) rfl (fun k hkl C => ?_)
  have C : Cx k w cX7_rests RX7 5 (some .boolean) 4 89 := C
  have D := dtX7_rests
  subst hkl
  have hC0 := hC
  obtain ⟨hxn, hsx, hT, hsi, hTa, hTb, hsk, hNs, hY, hX, hsv⟩ := hC
  have hY2 := hY.1
  have hX2 := hX.1
  have hI0 := hI
  obtain ⟨⟨⟨c0, hc0, hat⟩, hpa, ⟨ns, hns, hse⟩, ⟨nm, hnm, hma⟩⟩, -, -, ⟨nt, hnt, htx⟩, ⟨ct, hct, hatx⟩⟩ := hI
  have hI := hI0
  refine X_iconst (v := nI (0)) C (D (0, .iconst 0, 1) (mg 0 rfl)) (by decide) ?_
  refine X_istore (ls' := [some (.ref (wA w (x))), some (.int (nI (r1))), some (.int (nI (i1))), some (.int (nI (j1))), some (.int (nI (0)))]) C (D (1, .istore 4, 2) (mg 1 rfl)) (Nat.le_of_ble_eq_true rfl) rfl ?_
  have lp3 : ∀ (nn3 : Nat) (j : Nat), (j ≤ 5) → 6 - j ≤ nn3 → X k w (Zq k w (pI h g)) 3 [some (.ref (wA w (x))), some (.int (nI (r1))), some (.int (nI (i1))), some (.int (nI (j1))), some (.int (nI (j)))] [] h g := by
    intro nn3
    induction nn3 with
    | zero => intro j hc3_0 hz; exact absurd hz (by omega)
    | succ nn3 ih3 =>
      intro j hc3_0 hz3
      refine X_iload C (D (3, .iload 4, 2) (mg 2 rfl)) rfl ?_
      refine X_iconst (v := nI (5)) C (D (5, .iconst 5, 1) (mg 3 rfl)) (by decide) ?_
      refine X_icmp_ge (tgt := 53) C (D (6, .if_icmp .ge 47, 3) (mg 4 rfl)) (by decide) (fun q1 => ?_) (fun q1 => ?_)
      · skip
        have q1 : (j) ≥ (5) := by have z := (nI_leI (a := (5)) (b := (j)) (by omega) (by omega)).mp q1; omega
        refine X_iconst (v := nI (1)) C (D (53, .iconst 1, 1) (mg 31 rfl)) (by decide) ?_
        exact X_zret C (D (54, .ireturn, 1) (mg 32 rfl)) rfl ⟨⟨_, rfl⟩, rfl, rfl⟩
      · skip
        have q1 : (j) < (5) := by have z : ¬ ((5) ≤ (j)) := fun u => q1 ((nI_leI (a := (5)) (b := (j)) (by omega) (by omega)).mpr u); omega
        refine X_aload_n C 0 (D (9, .aload_n 0, 1) (mg 5 rfl)) rfl rfl ?_
        refine X_iload_n C 1 (D (10, .iload_n 1, 1) (mg 6 rfl)) rfl rfl ?_
        refine X_iload C (D (11, .iload 4, 2) (mg 7 rfl)) rfl ?_
        refine X_iload_n C 3 (D (13, .iload_n 3, 1) (mg 8 rfl)) rfl rfl ?_
        refine X_cV (As := [.int (nI (r1)), .int (nI (j)), .int (nI (j1))]) (st := []) C (post := _) (x) (by omega) hsx rfl (ct_X7_curateGets hw hC0 (r1 := r1) (by omega) (i1 := j) (by omega) (j1 := j1) (by omega) h g hI) kX7_283 (by decide) (by decide) rfl rfl (Nat.le_of_ble_eq_true rfl) (D (14, .invokevirtual 283, 3) (mg 9 rfl)) rfl (fun v4 H2 G3 hv4 => ?_)
        obtain ⟨⟨y5, rfl⟩, rfl, rfl⟩ := hv4
        show X k w _ 17 [some (.ref (wA w (x))), some (.int (nI (r1))), some (.int (nI (i1))), some (.int (nI (j1))), some (.int (nI (j)))] [.int (y5)] h g
        refine X_aload_n C 0 (D (17, .aload_n 0, 1) (mg 10 rfl)) rfl rfl ?_
        refine X_iload_n C 1 (D (18, .iload_n 1, 1) (mg 11 rfl)) rfl rfl ?_
        refine X_iload_n C 2 (D (19, .iload_n 2, 1) (mg 12 rfl)) rfl rfl ?_
        refine X_iload_n C 3 (D (20, .iload_n 3, 1) (mg 13 rfl)) rfl rfl ?_
        refine X_cV (As := [.int (nI (r1)), .int (nI (i1)), .int (nI (j1))]) (st := [.int (y5)]) C (post := _) (x) (by omega) hsx rfl (ct_X7_curateGets hw hC0 (r1 := r1) (by omega) (i1 := i1) (by omega) (j1 := j1) (by omega) h g hI) kX7_283 (by decide) (by decide) rfl rfl (Nat.le_of_ble_eq_true rfl) (D (21, .invokevirtual 283, 3) (mg 14 rfl)) rfl (fun v8 H6 G7 hv8 => ?_)
        obtain ⟨⟨y9, rfl⟩, rfl, rfl⟩ := hv8
        show X k w _ 24 [some (.ref (wA w (x))), some (.int (nI (r1))), some (.int (nI (i1))), some (.int (nI (j1))), some (.int (nI (j)))] [.int (y9), .int (y5)] h g
        refine X_icmp_gt (tgt := 45) C (D (24, .if_icmp .gt 21, 3) (mg 15 rfl)) (by decide) (fun q10 => ?_) (fun q10 => ?_)
        · skip
          refine X_iconst (v := nI (0)) C (D (45, .iconst 0, 1) (mg 27 rfl)) (by decide) ?_
          exact X_zret C (D (46, .ireturn, 1) (mg 28 rfl)) rfl ⟨⟨_, rfl⟩, rfl, rfl⟩
        · skip
          refine X_aload_n C 0 (D (27, .aload_n 0, 1) (mg 16 rfl)) rfl rfl ?_
          refine X_iload_n C 1 (D (28, .iload_n 1, 1) (mg 17 rfl)) rfl rfl ?_
          refine X_iload_n C 2 (D (29, .iload_n 2, 1) (mg 18 rfl)) rfl rfl ?_
          refine X_iload C (D (30, .iload 4, 2) (mg 19 rfl)) rfl ?_
          refine X_cV (As := [.int (nI (r1)), .int (nI (i1)), .int (nI (j))]) (st := []) C (post := _) (x) (by omega) hsx rfl (ct_X7_sparrowGets hw hC0 (r1 := r1) (by omega) (i1 := i1) (by omega) (j1 := j) (by omega) h g hI) kX7_280 (by decide) (by decide) rfl rfl (Nat.le_of_ble_eq_true rfl) (D (32, .invokevirtual 280, 3) (mg 20 rfl)) rfl (fun v13 H11 G12 hv13 => ?_)
          obtain ⟨⟨y14, rfl⟩, rfl, rfl⟩ := hv13
          show X k w _ 35 [some (.ref (wA w (x))), some (.int (nI (r1))), some (.int (nI (i1))), some (.int (nI (j1))), some (.int (nI (j)))] [.int (y14)] h g
          refine X_aload_n C 0 (D (35, .aload_n 0, 1) (mg 21 rfl)) rfl rfl ?_
          refine X_iload_n C 1 (D (36, .iload_n 1, 1) (mg 22 rfl)) rfl rfl ?_
          refine X_iload_n C 2 (D (37, .iload_n 2, 1) (mg 23 rfl)) rfl rfl ?_
          refine X_iload_n C 3 (D (38, .iload_n 3, 1) (mg 24 rfl)) rfl rfl ?_
          refine X_cV (As := [.int (nI (r1)), .int (nI (i1)), .int (nI (j1))]) (st := [.int (y14)]) C (post := _) (x) (by omega) hsx rfl (ct_X7_sparrowGets hw hC0 (r1 := r1) (by omega) (i1 := i1) (by omega) (j1 := j1) (by omega) h g hI) kX7_280 (by decide) (by decide) rfl rfl (Nat.le_of_ble_eq_true rfl) (D (39, .invokevirtual 280, 3) (mg 25 rfl)) rfl (fun v17 H15 G16 hv17 => ?_)
          obtain ⟨⟨y18, rfl⟩, rfl, rfl⟩ := hv17
          show X k w _ 42 [some (.ref (wA w (x))), some (.int (nI (r1))), some (.int (nI (i1))), some (.int (nI (j1))), some (.int (nI (j)))] [.int (y18), .int (y14)] h g
          refine X_icmp_le (tgt := 47) C (D (42, .if_icmp .le 5, 3) (mg 26 rfl)) (by decide) (fun q19 => ?_) (fun q19 => ?_)
          · skip
            refine X_iinc (v := nI (j + 1)) (ls' := [some (.ref (wA w (x))), some (.int (nI (r1))), some (.int (nI (i1))), some (.int (nI (j1))), some (.int (nI (j + 1)))]) C (D (47, .iinc 4 1, 3) (mg 29 rfl)) rfl (nI_add (j) 1) rfl ?_
            refine X_goto (tgt := 3) C (D (50, .goto (-47), 3) (mg 30 rfl)) (by decide) ?_
            refine X_eq (ls' := [some (.ref (wA w (x))), some (.int (nI (r1))), some (.int (nI (i1))), some (.int (nI (j1))), some (.int (nI (j + 1)))]) (st' := []) (h' := h) (g' := g) rfl rfl rfl rfl ?_
            exact ih3 (j + 1) (by omega) (by omega)
          · skip
            refine X_iconst (v := nI (0)) C (D (45, .iconst 0, 1) (mg 27 rfl)) (by decide) ?_
            exact X_zret C (D (46, .ireturn, 1) (mg 28 rfl)) rfl ⟨⟨_, rfl⟩, rfl, rfl⟩
  refine X_eq (ls' := [some (.ref (wA w (x))), some (.int (nI (r1))), some (.int (nI (i1))), some (.int (nI (j1))), some (.int (nI (0)))]) (st' := []) (h' := h) (g' := g) rfl rfl rfl rfl ?_
  exact lp3 _ (0) (by omega) (Nat.le_refl _)
set_option maxHeartbeats 4000000 in
set_option maxRecDepth 100000 in
theorem ct_X7_sparrow {l : Launch} {w : Kw} (hw : wOk w) {x : Nat} (hC : shC w x) (a1 a2 : Int32) (h : xI) (g : xJ) (hI : cOk h x) : Ct l w yX7_sparrow cX7_sparrow 7 (some .int) 5 113 [.ref (wA w (x)), .int (a1), .int (a2)] h g (pQ (wI x h)) := by
  refine Ct_of (ls := [some (.ref (wA w (x))), some (.int (a1)), some (.int (a2)), none, none, none, none]) (by decide) hw (Nat.le_of_ble_eq_true rfl) rfl (fun k hkl C => ?_)
  have C : Cx k w cX7_sparrow RX7 7 (some .int) 5 113 := C
  have D := dtX7_sparrow
  subst hkl
  have hC0 := hC
  obtain ⟨hxn, hsx, hT, hsi, hTa, hTb, hsk, hNs, hY, hX, hsv⟩ := hC
  have hY2 := hY.1
  have hX2 := hX.1
  have hI0 := hI
  obtain ⟨⟨⟨c0, hc0, hat⟩, hpa, ⟨ns, hns, hse⟩, ⟨nm, hnm, hma⟩⟩, -, -, ⟨nt, hnt, htx⟩, ⟨ct, hct, hatx⟩⟩ := hI
  have hI := hI0
  refine X_iload_n C 1 (D (0, .iload_n 1, 1) (mg 0 rfl)) rfl rfl ?_
  refine X_iconst (v := nI (5)) C (D (1, .iconst 5, 1) (mg 1 rfl)) (by decide) ?_
  refine X_cS (As := [.int (a1), .int (nI (5))]) (st := []) C (post := _) (ct_X7_isBelow hw (a1) (B := 5) (by decide) h g) kX7_53 (by decide) (by decide) rfl rfl (Nat.le_of_ble_eq_true rfl) (D (2, .invokestatic 53, 3) (mg 2 rfl)) rfl (fun v3 H1 G2 hv3 => ?_)
  obtain ⟨rfl, rfl, rfl⟩ := hv3
  show X k w _ 5 [some (.ref (wA w (x))), some (.int (a1)), some (.int (a2)), none, none, none, none] [.int (if 0 ≤ (a1).toInt ∧ (a1).toInt < ((5 : Nat) : Int) then 1 else 0)] h g
  refine X_if_eq (tgt := 13) C (D (5, .ifCond .eq 8, 3) (mg 3 rfl)) (by decide) (fun q4 => ?_) (fun q4 => ?_)
  · skip
    have q4 : ¬ (0 ≤ (a1).toInt ∧ (a1).toInt < ((5 : Nat) : Int)) := bz0.mp q4
    refine X_aload_n C 0 (D (13, .aload_n 0, 1) (mg 7 rfl)) rfl rfl ?_
    refine X_cV (As := []) (st := []) C (post := _) (x) (by omega) hsx rfl (ct_X7_refuseBadTen hw hC0 h g) kX7_169 (by decide) (by decide) rfl rfl (Nat.le_of_ble_eq_true rfl) (D (14, .invokevirtual 169, 3) (mg 8 rfl)) rfl (fun v7 H5 G6 hv7 => ?_)
    obtain ⟨rfl, rfl, rfl⟩ := hv7
    show X k w _ 17 [some (.ref (wA w (x))), some (.int (a1)), some (.int (a2)), none, none, none, none] [.int ((-10 : Int32))] (rcH h (x) 9) g
    exact X_iret C (D (17, .ireturn, 1) (mg 9 rfl)) ⟨⟨_, rfl⟩, ⟨fun q i z0 => by have z := z0; unfold SW at z; rw [rcH_ne _ _ _ (by omega)], ⟨c0, (by omega), (((rcH_ne _ _ _ (by omega))).trans hat)⟩, (paOk_k (fun q i z => by rw [rcH_ne _ _ _ (by omega)]) hpa)⟩⟩
  · skip
    have q4 : (0 ≤ (a1).toInt ∧ (a1).toInt < ((5 : Nat) : Int)) := bz1.mp q4
    obtain ⟨n8, hn8, rfl⟩ := nI_i (x := a1) (n := 5) q4.1 (by omega)
    refine X_iload_n C 2 (D (8, .iload_n 2, 1) (mg 4 rfl)) rfl rfl ?_
    refine X_iconst (v := (-1 : Int32)) C (D (9, .iconst (-1), 1) (mg 5 rfl)) (by decide) ?_
    refine X_icmp_ge (tgt := 18) C (D (10, .if_icmp .ge 8, 3) (mg 6 rfl)) (by decide) (fun q9 => ?_) (fun q9 => ?_)
    · skip
      refine X_iconst (v := nI (0)) C (D (18, .iconst 0, 1) (mg 10 rfl)) (by decide) ?_
      refine X_istore_n (ls' := [some (.ref (wA w (x))), some (.int (nI (n8))), some (.int (a2)), some (.int (nI (0))), none, none, none]) C 3 (D (19, .istore_n 3, 1) (mg 11 rfl)) rfl (Nat.le_of_ble_eq_true rfl) rfl ?_
      refine X_iconst (v := nI (0)) C (D (20, .iconst 0, 1) (mg 12 rfl)) (by decide) ?_
      refine X_istore (ls' := [some (.ref (wA w (x))), some (.int (nI (n8))), some (.int (a2)), some (.int (nI (0))), some (.int (nI (0))), none, none]) C (D (21, .istore 4, 2) (mg 13 rfl)) (Nat.le_of_ble_eq_true rfl) rfl ?_
      have lp23 : ∀ (nn23 : Nat) (j : Nat) (b : Int32), (j ≤ 25) → 26 - j ≤ nn23 → X k w (Zq k w (pQ (wI x h))) 23 [some (.ref (wA w (x))), some (.int (nI (n8))), some (.int (a2)), some (.int (b)), some (.int (nI (j))), none, none] [] h g := by
        intro nn23
        induction nn23 with
        | zero => intro j b hc23_0 hz; exact absurd hz (by omega)
        | succ nn23 ih23 =>
          intro j b hc23_0 hz23
          refine X_iload C (D (23, .iload 4, 2) (mg 14 rfl)) rfl ?_
          refine X_bipush (v := nI (25)) C (D (25, .bipush 25, 2) (mg 15 rfl)) (by decide) ?_
          refine X_icmp_ge (tgt := 77) C (D (27, .if_icmp .ge 50, 3) (mg 16 rfl)) (by decide) (fun q10 => ?_) (fun q10 => ?_)
          · skip
            have q10 : (j) ≥ (25) := by have z := (nI_leI (a := (25)) (b := (j)) (by omega) (by omega)).mp q10; omega
            refine X_iload_n C 2 (D (77, .iload_n 2, 1) (mg 43 rfl)) rfl rfl ?_
            refine X_iconst (v := (-1 : Int32)) C (D (78, .iconst (-1), 1) (mg 44 rfl)) (by decide) ?_
            refine X_icmp_ne (tgt := 86) C (D (79, .if_icmp .ne 7, 3) (mg 45 rfl)) (by decide) (fun q11 => ?_) (fun q11 => ?_)
            · skip
              refine X_bipush (v := (-5 : Int32)) C (D (86, .bipush (-5), 2) (mg 48 rfl)) (by decide) ?_
              exact X_iret C (D (88, .ireturn, 1) (mg 49 rfl)) ⟨⟨_, rfl⟩, (wI_r hI)⟩
            · skip
              refine X_iload_n C 3 (D (82, .iload_n 3, 1) (mg 46 rfl)) rfl rfl ?_
              refine X_goto (tgt := 88) C (D (83, .goto 5, 3) (mg 47 rfl)) (by decide) ?_
              exact X_iret C (D (88, .ireturn, 1) (mg 49 rfl)) ⟨⟨_, rfl⟩, (wI_r hI)⟩
          · skip
            have q10 : (j) < (25) := by have z : ¬ ((25) ≤ (j)) := fun u => q10 ((nI_leI (a := (25)) (b := (j)) (by omega) (by omega)).mpr u); omega
            refine X_iload C (D (30, .iload 4, 2) (mg 17 rfl)) rfl ?_
            refine X_iconst (v := nI (5)) C (D (32, .iconst 5, 1) (mg 18 rfl)) (by decide) ?_
            refine X_idiv C (D (33, .idiv, 1) (mg 19 rfl)) (by decide) ?_
            refine X_ti (y := nI ((j) / (5))) (pk_div (by omega) (by omega) (by omega)) ?_
            refine X_istore (ls' := [some (.ref (wA w (x))), some (.int (nI (n8))), some (.int (a2)), some (.int (b)), some (.int (nI (j))), some (.int (nI ((j) / (5)))), none]) C (D (34, .istore 5, 2) (mg 20 rfl)) (Nat.le_of_ble_eq_true rfl) rfl ?_
            refine X_iload C (D (36, .iload 4, 2) (mg 21 rfl)) rfl ?_
            refine X_iconst (v := nI (5)) C (D (38, .iconst 5, 1) (mg 22 rfl)) (by decide) ?_
            refine X_irem C (D (39, .irem, 1) (mg 23 rfl)) (by decide) ?_
            refine X_ti (y := nI ((j) % (5))) (pk_rem (by omega) (by omega) (by omega)) ?_
            refine X_istore (ls' := [some (.ref (wA w (x))), some (.int (nI (n8))), some (.int (a2)), some (.int (b)), some (.int (nI (j))), some (.int (nI ((j) / (5)))), some (.int (nI ((j) % (5))))]) C (D (40, .istore 6, 2) (mg 24 rfl)) (Nat.le_of_ble_eq_true rfl) rfl ?_
            refine X_aload_n C 0 (D (42, .aload_n 0, 1) (mg 25 rfl)) rfl rfl ?_
            refine X_iload_n C 1 (D (43, .iload_n 1, 1) (mg 26 rfl)) rfl rfl ?_
            refine X_iload C (D (44, .iload 5, 2) (mg 27 rfl)) rfl ?_
            refine X_iload C (D (46, .iload 6, 2) (mg 28 rfl)) rfl ?_
            refine X_cV (As := [.int (nI (n8)), .int (nI ((j) / (5))), .int (nI ((j) % (5)))]) (st := []) C (post := _) (x) (by omega) hsx rfl (ct_X7_rests hw hC0 (r1 := n8) (by omega) (i1 := (j) / (5)) (by omega) (j1 := (j) % (5)) (by omega) h g hI) kX7_220 (by decide) (by decide) rfl rfl (Nat.le_of_ble_eq_true rfl) (D (48, .invokevirtual 220, 3) (mg 29 rfl)) rfl (fun v14 H12 G13 hv14 => ?_)
            obtain ⟨⟨y15, rfl⟩, rfl, rfl⟩ := hv14
            show X k w _ 51 [some (.ref (wA w (x))), some (.int (nI (n8))), some (.int (a2)), some (.int (b)), some (.int (nI (j))), some (.int (nI ((j) / (5)))), some (.int (nI ((j) % (5))))] [.int (y15)] h g
            refine X_if_eq (tgt := 71) C (D (51, .ifCond .eq 20, 3) (mg 30 rfl)) (by decide) (fun q16 => ?_) (fun q16 => ?_)
            · skip
              refine X_iinc (v := nI (j + 1)) (ls' := [some (.ref (wA w (x))), some (.int (nI (n8))), some (.int (a2)), some (.int (b)), some (.int (nI (j + 1))), some (.int (nI ((j) / (5)))), some (.int (nI ((j) % (5))))]) C (D (71, .iinc 4 1, 3) (mg 41 rfl)) rfl (nI_add (j) 1) rfl ?_
              refine X_goto (tgt := 23) C (D (74, .goto (-51), 3) (mg 42 rfl)) (by decide) ?_
              refine X_los (ls' := [some (.ref (wA w (x))), some (.int (nI (n8))), some (.int (a2)), some (.int (b)), some (.int (nI (j + 1))), none, none]) (by simp [lsub]) ?_
              refine X_eq (ls' := [some (.ref (wA w (x))), some (.int (nI (n8))), some (.int (a2)), some (.int (b)), some (.int (nI (j + 1))), none, none]) (st' := []) (h' := h) (g' := g) rfl rfl rfl rfl ?_
              exact ih23 (j + 1) (b) (by omega) (by omega)
            · skip
              refine X_iload_n C 3 (D (54, .iload_n 3, 1) (mg 31 rfl)) rfl rfl ?_
              refine X_iload_n C 2 (D (55, .iload_n 2, 1) (mg 32 rfl)) rfl rfl ?_
              refine X_icmp_ne (tgt := 68) C (D (56, .if_icmp .ne 12, 3) (mg 33 rfl)) (by decide) (fun q17 => ?_) (fun q17 => ?_)
              · skip
                refine X_iinc (v := b + 1) (ls' := [some (.ref (wA w (x))), some (.int (nI (n8))), some (.int (a2)), some (.int (b + 1)), some (.int (nI (j))), some (.int (nI ((j) / (5)))), some (.int (nI ((j) % (5))))]) C (D (68, .iinc 3 1, 3) (mg 40 rfl)) rfl rfl rfl ?_
                refine X_iinc (v := nI (j + 1)) (ls' := [some (.ref (wA w (x))), some (.int (nI (n8))), some (.int (a2)), some (.int (b + 1)), some (.int (nI (j + 1))), some (.int (nI ((j) / (5)))), some (.int (nI ((j) % (5))))]) C (D (71, .iinc 4 1, 3) (mg 41 rfl)) rfl (nI_add (j) 1) rfl ?_
                refine X_goto (tgt := 23) C (D (74, .goto (-51), 3) (mg 42 rfl)) (by decide) ?_
                refine X_los (ls' := [some (.ref (wA w (x))), some (.int (nI (n8))), some (.int (a2)), some (.int (b + 1)), some (.int (nI (j + 1))), none, none]) (by simp [lsub]) ?_
                refine X_eq (ls' := [some (.ref (wA w (x))), some (.int (nI (n8))), some (.int (a2)), some (.int (b + 1)), some (.int (nI (j + 1))), none, none]) (st' := []) (h' := h) (g' := g) rfl rfl rfl rfl ?_
                exact ih23 (j + 1) (b + 1) (by omega) (by omega)
              · skip
                refine X_bipush (v := nI (10)) C (D (59, .bipush 10, 2) (mg 34 rfl)) (by decide) ?_
                refine X_iload C (D (61, .iload 5, 2) (mg 35 rfl)) rfl ?_
                refine X_imul C (D (63, .imul, 1) (mg 36 rfl)) ?_
                refine X_ti (y := nI ((10) * ((j) / (5)))) (pk_mul (10) ((j) / (5))) ?_
                refine X_iload C (D (64, .iload 6, 2) (mg 37 rfl)) rfl ?_
                refine X_iadd C (D (66, .iadd, 1) (mg 38 rfl)) ?_
                refine X_ti (y := nI ((10) * ((j) / (5)) + (j) % (5))) (nI_add ((10) * ((j) / (5))) ((j) % (5))) ?_
                exact X_iret C (D (67, .ireturn, 1) (mg 39 rfl)) ⟨⟨_, rfl⟩, (wI_r hI)⟩
      refine X_eq (ls' := [some (.ref (wA w (x))), some (.int (nI (n8))), some (.int (a2)), some (.int (nI (0))), some (.int (nI (0))), none, none]) (st' := []) (h' := h) (g' := g) rfl rfl rfl rfl ?_
      exact lp23 _ (0) (nI (0)) (by omega) (Nat.le_refl _)
    · skip
      refine X_aload_n C 0 (D (13, .aload_n 0, 1) (mg 7 rfl)) rfl rfl ?_
      refine X_cV (As := []) (st := []) C (post := _) (x) (by omega) hsx rfl (ct_X7_refuseBadTen hw hC0 h g) kX7_169 (by decide) (by decide) rfl rfl (Nat.le_of_ble_eq_true rfl) (D (14, .invokevirtual 169, 3) (mg 8 rfl)) rfl (fun v20 H18 G19 hv20 => ?_)
      obtain ⟨rfl, rfl, rfl⟩ := hv20
      show X k w _ 17 [some (.ref (wA w (x))), some (.int (nI (n8))), some (.int (a2)), none, none, none, none] [.int ((-10 : Int32))] (rcH h (x) 9) g
      exact X_iret C (D (17, .ireturn, 1) (mg 9 rfl)) ⟨⟨_, rfl⟩, ⟨fun q i z0 => by have z := z0; unfold SW at z; rw [rcH_ne _ _ _ (by omega)], ⟨c0, (by omega), (((rcH_ne _ _ _ (by omega))).trans hat)⟩, (paOk_k (fun q i z => by rw [rcH_ne _ _ _ (by omega)]) hpa)⟩⟩
set_option maxHeartbeats 4000000 in
set_option maxRecDepth 100000 in
theorem ct_X7_commonDivisor {l : Launch} {w : Kw} (hw : wOk w) (a b : Int32) (h : xI) (g : xJ)  : Ct l w yX7_commonDivisor cX7_commonDivisor 6 (some .int) 0 0 [.int (a), .int (b)] h g (pI h g) := by
  refine Ct_of (ls := [some (.int (a)), some (.int (b)), none, none, none, none]) (by decide) hw (Nat.le_of_ble_eq_true rfl) rfl (fun k hkl C => ?_)
  have C : Cx k w cX7_commonDivisor RX7 6 (some .int) 0 0 := C
  have D := dtX7_commonDivisor
  subst hkl
  refine X_iload_n C 1 (D (0, .iload_n 1, 1) (mg 0 rfl)) rfl rfl ?_
  refine X_istore_n (ls' := [some (.int (a)), some (.int (b)), some (.int (b)), none, none, none]) C 2 (D (1, .istore_n 2, 1) (mg 1 rfl)) rfl (Nat.le_of_ble_eq_true rfl) rfl ?_
  refine X_iload_n C 0 (D (2, .iload_n 0, 1) (mg 2 rfl)) rfl rfl ?_
  refine X_istore_n (ls' := [some (.int (a)), some (.int (b)), some (.int (b)), some (.int (a)), none, none]) C 3 (D (3, .istore_n 3, 1) (mg 3 rfl)) rfl (Nat.le_of_ble_eq_true rfl) rfl ?_
  refine X_iconst (v := nI (0)) C (D (4, .iconst 0, 1) (mg 4 rfl)) (by decide) ?_
  refine X_istore (ls' := [some (.int (a)), some (.int (b)), some (.int (b)), some (.int (a)), some (.int (nI (0))), none]) C (D (5, .istore 4, 2) (mg 5 rfl)) (Nat.le_of_ble_eq_true rfl) rfl ?_
  have lp7 : ∀ (nn7 : Nat) (j : Nat) (b2 : Int32) (b3 : Int32), (j ≤ 100) → 101 - j ≤ nn7 → X k w (Zq k w (pI h g)) 7 [some (.int (a)), some (.int (b)), some (.int (b2)), some (.int (b3)), some (.int (nI (j))), none] [] h g := by
    intro nn7
    induction nn7 with
    | zero => intro j b2 b3 hc7_0 hz; exact absurd hz (by omega)
    | succ nn7 ih7 =>
      intro j b2 b3 hc7_0 hz7
      refine X_iload C (D (7, .iload 4, 2) (mg 6 rfl)) rfl ?_
      refine X_bipush (v := nI (100)) C (D (9, .bipush 100, 2) (mg 7 rfl)) (by decide) ?_
      refine X_icmp_ge (tgt := 34) C (D (11, .if_icmp .ge 23, 3) (mg 8 rfl)) (by decide) (fun q1 => ?_) (fun q1 => ?_)
      · skip
        have q1 : (j) ≥ (100) := by have z := (nI_leI (a := (100)) (b := (j)) (by omega) (by omega)).mp q1; omega
        refine X_iload_n C 2 (D (34, .iload_n 2, 1) (mg 21 rfl)) rfl rfl ?_
        exact X_iret C (D (35, .ireturn, 1) (mg 22 rfl)) ⟨⟨_, rfl⟩, rfl, rfl⟩
      · skip
        have q1 : (j) < (100) := by have z : ¬ ((100) ≤ (j)) := fun u => q1 ((nI_leI (a := (100)) (b := (j)) (by omega) (by omega)).mpr u); omega
        refine X_iload_n C 3 (D (14, .iload_n 3, 1) (mg 9 rfl)) rfl rfl ?_
        refine X_if_le (tgt := 34) C (D (15, .ifCond .le 19, 3) (mg 10 rfl)) (by decide) (fun q2 => ?_) (fun q2 => ?_)
        · skip
          refine X_iload_n C 2 (D (34, .iload_n 2, 1) (mg 21 rfl)) rfl rfl ?_
          exact X_iret C (D (35, .ireturn, 1) (mg 22 rfl)) ⟨⟨_, rfl⟩, rfl, rfl⟩
        · skip
          refine X_iload_n C 2 (D (18, .iload_n 2, 1) (mg 11 rfl)) rfl rfl ?_
          refine X_iload_n C 3 (D (19, .iload_n 3, 1) (mg 12 rfl)) rfl rfl ?_
          refine X_irem C (D (20, .irem, 1) (mg 13 rfl)) (fun z => (by assumption : ¬ b3 ≤ 0) (by rw [z]; decide)) ?_
          refine X_istore (ls' := [some (.int (a)), some (.int (b)), some (.int (b2)), some (.int (b3)), some (.int (nI (j))), some (.int (b2 - b2 / b3 * b3))]) C (D (21, .istore 5, 2) (mg 14 rfl)) (Nat.le_of_ble_eq_true rfl) rfl ?_
          refine X_iload_n C 3 (D (23, .iload_n 3, 1) (mg 15 rfl)) rfl rfl ?_
          refine X_istore_n (ls' := [some (.int (a)), some (.int (b)), some (.int (b3)), some (.int (b3)), some (.int (nI (j))), some (.int (b2 - b2 / b3 * b3))]) C 2 (D (24, .istore_n 2, 1) (mg 16 rfl)) rfl (Nat.le_of_ble_eq_true rfl) rfl ?_
          refine X_iload C (D (25, .iload 5, 2) (mg 17 rfl)) rfl ?_
          refine X_istore_n (ls' := [some (.int (a)), some (.int (b)), some (.int (b3)), some (.int (b2 - b2 / b3 * b3)), some (.int (nI (j))), some (.int (b2 - b2 / b3 * b3))]) C 3 (D (27, .istore_n 3, 1) (mg 18 rfl)) rfl (Nat.le_of_ble_eq_true rfl) rfl ?_
          refine X_iinc (v := nI (j + 1)) (ls' := [some (.int (a)), some (.int (b)), some (.int (b3)), some (.int (b2 - b2 / b3 * b3)), some (.int (nI (j + 1))), some (.int (b2 - b2 / b3 * b3))]) C (D (28, .iinc 4 1, 3) (mg 19 rfl)) rfl (nI_add (j) 1) rfl ?_
          refine X_goto (tgt := 7) C (D (31, .goto (-24), 3) (mg 20 rfl)) (by decide) ?_
          refine X_los (ls' := [some (.int (a)), some (.int (b)), some (.int (b3)), some (.int (b2 - b2 / b3 * b3)), some (.int (nI (j + 1))), none]) (by simp [lsub]) ?_
          refine X_eq (ls' := [some (.int (a)), some (.int (b)), some (.int (b3)), some (.int (b2 - b2 / b3 * b3)), some (.int (nI (j + 1))), none]) (st' := []) (h' := h) (g' := g) rfl rfl rfl rfl ?_
          exact ih7 (j + 1) (b3) (b2 - b2 / b3 * b3) (by omega) (by omega)
  refine X_eq (ls' := [some (.int (a)), some (.int (b)), some (.int (b)), some (.int (a)), some (.int (nI (0))), none]) (st' := []) (h' := h) (g' := g) rfl rfl rfl rfl ?_
  exact lp7 _ (0) (b) (a) (by omega) (Nat.le_refl _)
set_option maxHeartbeats 4000000 in
set_option maxRecDepth 100000 in
theorem ct_X7_setFraction {l : Launch} {w : Kw} (hw : wOk w) {x : Nat} (hC : shC w x) (a b : Int32) (h : xI) (g : xJ)  : Ct l w yX7_setFraction cX7_setFraction 4 none 1 25 [.ref (wA w (x)), .int (a), .int (b)] h g (pQv (fun h' => h = h')) := by
  refine Ct_of (ls := [some (.ref (wA w (x))), some (.int (a)), some (.int (b)), none]) (by decide) hw (Nat.le_of_ble_eq_true rfl) rfl (fun k hkl C => ?_)
  have C : Cx k w cX7_setFraction RX7 4 none 1 25 := C
  have D := dtX7_setFraction
  subst hkl
  have hC0 := hC
  obtain ⟨hxn, hsx, hT, hsi, hTa, hTb, hsk, hNs, hY, hX, hsv⟩ := hC
  have hY2 := hY.1
  have hX2 := hX.1
  refine X_iload_n C 1 (D (0, .iload_n 1, 1) (mg 0 rfl)) rfl rfl ?_
  refine X_iload_n C 2 (D (1, .iload_n 2, 1) (mg 1 rfl)) rfl rfl ?_
  refine X_cS (As := [.int (a), .int (b)]) (st := []) C (post := _) (ct_X7_commonDivisor hw (a) (b) h g) kX7_286 (by decide) (by decide) rfl rfl (Nat.le_of_ble_eq_true rfl) (D (2, .invokestatic 286, 3) (mg 2 rfl)) rfl (fun v3 H1 G2 hv3 => ?_)
  obtain ⟨⟨y4, rfl⟩, rfl, rfl⟩ := hv3
  show X k w _ 5 [some (.ref (wA w (x))), some (.int (a)), some (.int (b)), none] [.int (y4)] h g
  refine X_istore_n (ls' := [some (.ref (wA w (x))), some (.int (a)), some (.int (b)), some (.int (y4))]) C 3 (D (5, .istore_n 3, 1) (mg 3 rfl)) rfl (Nat.le_of_ble_eq_true rfl) rfl ?_
  refine X_iload_n C 3 (D (6, .iload_n 3, 1) (mg 4 rfl)) rfl rfl ?_
  refine X_if_le (tgt := 26) C (D (7, .ifCond .le 19, 3) (mg 5 rfl)) (by decide) (fun q5 => ?_) (fun q5 => ?_)
  · skip
    exact X_vret C (D (26, .return_, 1) (mg 18 rfl)) ⟨rfl, rfl⟩
  · skip
    refine X_aload_n C 0 (D (10, .aload_n 0, 1) (mg 6 rfl)) rfl rfl ?_
    refine X_iload_n C 1 (D (11, .iload_n 1, 1) (mg 7 rfl)) rfl rfl ?_
    refine X_iload_n C 3 (D (12, .iload_n 3, 1) (mg 8 rfl)) rfl rfl ?_
    refine X_idiv C (D (13, .idiv, 1) (mg 9 rfl)) (fun z => (by assumption : ¬ y4 ≤ 0) (by rw [z]; decide)) ?_
    refine X_i2l C (D (14, .i2l, 1) (mg 10 rfl)) ?_
    refine X_putJ C (x) 7 tyX7 tyX7_ok nmX7 (by omega) hsx rfl rfl (by decide) inX7 fX7_246 rfl rfl (by decide +kernel) (D (15, .putfield 246, 3) (mg 11 rfl)) ?_
    refine X_aload_n C 0 (D (18, .aload_n 0, 1) (mg 12 rfl)) rfl rfl ?_
    refine X_iload_n C 2 (D (19, .iload_n 2, 1) (mg 13 rfl)) rfl rfl ?_
    refine X_iload_n C 3 (D (20, .iload_n 3, 1) (mg 14 rfl)) rfl rfl ?_
    refine X_idiv C (D (21, .idiv, 1) (mg 15 rfl)) (fun z => (by assumption : ¬ y4 ≤ 0) (by rw [z]; decide)) ?_
    refine X_i2l C (D (22, .i2l, 1) (mg 16 rfl)) ?_
    refine X_putJ C (x) 8 tyX7 tyX7_ok nmX7 (by omega) hsx rfl rfl (by decide) inX7 fX7_49 rfl rfl (by decide +kernel) (D (23, .putfield 49, 3) (mg 17 rfl)) ?_
    exact X_vret C (D (26, .return_, 1) (mg 18 rfl)) ⟨rfl, rfl⟩
def pQa (P : Prop) (I : xI → Prop) : Option Value → xI → xJ → Prop := fun v h' _ => ((P ∧ v = some (.int (nI 1))) ∨ (¬ P ∧ v = some (.int (-2 : Int32)))) ∧ I h'
theorem pQa_w {P : Prop} {I : xI → Prop} {v : Option Value} {h : xI} {g : xJ} (H : pQa P I v h g) : (∃ y : Int32, v = some (.int y)) ∧ I h := by
  obtain ⟨⟨-, e⟩ | ⟨-, e⟩, z⟩ := H
  · exact ⟨⟨_, e⟩, z⟩
  · exact ⟨⟨_, e⟩, z⟩
theorem pQa_e {P : Prop} {I I' : xI → Prop} {v v' : Option Value} {h h' : xI} {g g' : xJ} (H : pQa P I v h g) (H' : pQa P I' v' h' g') : v = v' := by
  obtain ⟨⟨p, e⟩ | ⟨p, e⟩, -⟩ := H
  · obtain ⟨⟨p', e'⟩ | ⟨p', e'⟩, -⟩ := H'
    · rw [e, e']
    · exact absurd p p'
  · obtain ⟨⟨p', e'⟩ | ⟨p', e'⟩, -⟩ := H'
    · exact absurd p' p
    · rw [e, e']
def frP (a1 a2 : Int32) : Prop := (0 ≤ a1.toInt ∧ a1.toInt < 25) ∧ (0 ≤ a2.toInt ∧ a2.toInt < 11)
set_option maxHeartbeats 4000000 in
set_option maxRecDepth 100000 in
theorem ct_X7_frost {l : Launch} {w : Kw} (hw : wOk w) {x : Nat} (hC : shC w x) (a1 a2 : Int32) (h : xI) (g : xJ) (hI : cOk h x) : Ct l w yX7_frost cX7_frost 3 (some .int) 3 63 [.ref (wA w (x)), .int (a1), .int (a2)] h g (pQa (frP a1 a2) (wI x h)) := by
  refine Ct_of (ls := [some (.ref (wA w (x))), some (.int (a1)), some (.int (a2))]) (by decide) hw (Nat.le_of_ble_eq_true rfl) rfl (fun k hkl C => ?_)
  have C : Cx k w cX7_frost RX7 3 (some .int) 3 63 := C
  have D := dtX7_frost
  subst hkl
  have hC0 := hC
  obtain ⟨hxn, hsx, hT, hsi, hTa, hTb, hsk, hNs, hY, hX, hsv⟩ := hC
  have hY2 := hY.1
  have hX2 := hX.1
  have hI0 := hI
  obtain ⟨⟨⟨c0, hc0, hat⟩, hpa, ⟨ns, hns, hse⟩, ⟨nm, hnm, hma⟩⟩, -, -, ⟨nt, hnt, htx⟩, ⟨ct, hct, hatx⟩⟩ := hI
  have hI := hI0
  refine X_iload_n C 1 (D (0, .iload_n 1, 1) (mg 0 rfl)) rfl rfl ?_
  refine X_bipush (v := nI (25)) C (D (1, .bipush 25, 2) (mg 1 rfl)) (by decide) ?_
  refine X_cS (As := [.int (a1), .int (nI (25))]) (st := []) C (post := _) (ct_X7_isBelow hw (a1) (B := 25) (by decide) h g) kX7_53 (by decide) (by decide) rfl rfl (Nat.le_of_ble_eq_true rfl) (D (3, .invokestatic 53, 3) (mg 2 rfl)) rfl (fun v3 H1 G2 hv3 => ?_)
  obtain ⟨rfl, rfl, rfl⟩ := hv3
  show X k w _ 6 [some (.ref (wA w (x))), some (.int (a1)), some (.int (a2))] [.int (if 0 ≤ (a1).toInt ∧ (a1).toInt < ((25 : Nat) : Int) then 1 else 0)] h g
  refine X_if_eq (tgt := 18) C (D (6, .ifCond .eq 12, 3) (mg 3 rfl)) (by decide) (fun q4 => ?_) (fun q4 => ?_)
  · skip
    have q4 : ¬ (0 ≤ (a1).toInt ∧ (a1).toInt < ((25 : Nat) : Int)) := bz0.mp q4
    refine X_aload_n C 0 (D (18, .aload_n 0, 1) (mg 8 rfl)) rfl rfl ?_
    refine X_cV (As := []) (st := []) C (post := _) (x) (by omega) hsx rfl (ct_X7_refuseBad hw hC0 h g) kX7_57 (by decide) (by decide) rfl rfl (Nat.le_of_ble_eq_true rfl) (D (19, .invokevirtual 57, 3) (mg 9 rfl)) rfl (fun v7 H5 G6 hv7 => ?_)
    obtain ⟨rfl, rfl, rfl⟩ := hv7
    show X k w _ 22 [some (.ref (wA w (x))), some (.int (a1)), some (.int (a2))] [.int ((-2 : Int32))] (rcH h (x) 9) g
    exact X_iret C (D (22, .ireturn, 1) (mg 10 rfl)) ⟨Or.inr ⟨(by unfold frP; omega), rfl⟩, ⟨fun q i z0 => by have z := z0; unfold SW at z; rw [rcH_ne _ _ _ (by omega)], ⟨c0, (by omega), (((rcH_ne _ _ _ (by omega))).trans hat)⟩, (paOk_k (fun q i z => by rw [rcH_ne _ _ _ (by omega)]) hpa)⟩⟩
  · skip
    have q4 : (0 ≤ (a1).toInt ∧ (a1).toInt < ((25 : Nat) : Int)) := bz1.mp q4
    obtain ⟨n8, hn8, rfl⟩ := nI_i (x := a1) (n := 25) q4.1 (by omega)
    refine X_iload_n C 2 (D (9, .iload_n 2, 1) (mg 4 rfl)) rfl rfl ?_
    refine X_bipush (v := nI (11)) C (D (10, .bipush 11, 2) (mg 5 rfl)) (by decide) ?_
    refine X_cS (As := [.int (a2), .int (nI (11))]) (st := []) C (post := _) (ct_X7_isBelow hw (a2) (B := 11) (by decide) h g) kX7_53 (by decide) (by decide) rfl rfl (Nat.le_of_ble_eq_true rfl) (D (12, .invokestatic 53, 3) (mg 6 rfl)) rfl (fun v11 H9 G10 hv11 => ?_)
    obtain ⟨rfl, rfl, rfl⟩ := hv11
    show X k w _ 15 [some (.ref (wA w (x))), some (.int (nI (n8))), some (.int (a2))] [.int (if 0 ≤ (a2).toInt ∧ (a2).toInt < ((11 : Nat) : Int) then 1 else 0)] h g
    refine X_if_ne (tgt := 23) C (D (15, .ifCond .ne 8, 3) (mg 7 rfl)) (by decide) (fun q12 => ?_) (fun q12 => ?_)
    · skip
      have q12 : (0 ≤ (a2).toInt ∧ (a2).toInt < ((11 : Nat) : Int)) := bz1.mp q12
      refine X_aload_n C 0 (D (23, .aload_n 0, 1) (mg 11 rfl)) rfl rfl ?_
      refine X_get (v := .ref (wA w (x + 1))) C (x) 0 (by omega) hsx rfl rfl (by decide) inX7 fX7_10 rfl (D (24, .getfield 10, 3) (mg 12 rfl)) rfl ?_
      refine X_get (v := .ref (wA w (x + 2))) C (x + 1) 0 (by omega) hT.2.1 rfl rfl (by decide) inX4 fX7_61 rfl (D (27, .getfield 61, 3) (mg 13 rfl)) rfl ?_
      refine X_iload_n C 1 (D (30, .iload_n 1, 1) (mg 14 rfl)) rfl rfl ?_
      refine X_cV (As := [.int (nI (n8))]) (st := []) C (post := _) (x + 2) (by omega) hT.2.2.1.2.1 rfl (ct_X1_depthIn hw (n := x + 2) hT.2.2.1 (j := n8) (by omega) h g) kX7_151 (by decide) (by decide) rfl rfl (Nat.le_of_ble_eq_true rfl) (D (31, .invokevirtual 151, 3) (mg 15 rfl)) rfl (fun v15 H13 G14 hv15 => ?_)
      obtain ⟨rfl, rfl, rfl⟩ := hv15
      show X k w _ 34 [some (.ref (wA w (x))), some (.int (nI (n8))), some (.int (a2))] [.int (cD (h (x + 4) (n8)))] h g
      refine X_iconst (v := nI (1)) C (D (34, .iconst 1, 1) (mg 16 rfl)) (by decide) ?_
      refine X_icmp_lt (tgt := 47) C (D (35, .if_icmp .lt 12, 3) (mg 17 rfl)) (by decide) (fun q16 => ?_) (fun q16 => ?_)
      · skip
        refine X_aload_n C 0 (D (47, .aload_n 0, 1) (mg 23 rfl)) rfl rfl ?_
        refine X_get (v := .ref (wA w (x + 1))) C (x) 0 (by omega) hsx rfl rfl (by decide) inX7 fX7_10 rfl (D (48, .getfield 10, 3) (mg 24 rfl)) rfl ?_
        refine X_get (v := .ref (wA w (x + 2))) C (x + 1) 0 (by omega) hT.2.1 rfl rfl (by decide) inX4 fX7_61 rfl (D (51, .getfield 61, 3) (mg 25 rfl)) rfl ?_
        refine X_iload_n C 1 (D (54, .iload_n 1, 1) (mg 26 rfl)) rfl rfl ?_
        refine X_cV (As := [.int (nI (n8))]) (st := []) C (post := _) (x + 2) (by omega) hT.2.2.1.2.1 rfl (ct_X1_dragIn hw (n := x + 2) hT.2.2.1 (j := n8) (by omega) h g) kX7_157 (by decide) (by decide) rfl rfl (Nat.le_of_ble_eq_true rfl) (D (55, .invokevirtual 157, 3) (mg 27 rfl)) rfl (fun v19 H17 G18 hv19 => ?_)
        obtain ⟨⟨y20, rfl⟩, rfl, rfl⟩ := hv19
        show X k w _ 58 [some (.ref (wA w (x))), some (.int (nI (n8))), some (.int (a2))] [.int (y20)] h g
        refine X_iconst (v := nI (1)) C (D (58, .iconst 1, 1) (mg 28 rfl)) (by decide) ?_
        refine X_icmp_lt (tgt := 77) C (D (59, .if_icmp .lt 18, 3) (mg 29 rfl)) (by decide) (fun q21 => ?_) (fun q21 => ?_)
        · skip
          refine X_aload_n C 0 (D (77, .aload_n 0, 1) (mg 39 rfl)) rfl rfl ?_
          refine X_iconst (v := nI (0)) C (D (78, .iconst 0, 1) (mg 40 rfl)) (by decide) ?_
          refine X_iconst (v := nI (1)) C (D (79, .iconst 1, 1) (mg 41 rfl)) (by decide) ?_
          refine X_cV (As := [.int (nI (0)), .int (nI (1))]) (st := []) C (post := _) (x) (by omega) hsx rfl (ct_X7_setFraction hw hC0 (nI (0)) (nI (1)) h g) kX7_224 (by decide) (by decide) rfl rfl (Nat.le_of_ble_eq_true rfl) (D (80, .invokevirtual 224, 3) (mg 42 rfl)) rfl (fun v24 H22 G23 hv24 => ?_)
          obtain ⟨rfl, rfl⟩ := hv24
          show X k w _ 83 [some (.ref (wA w (x))), some (.int (nI (n8))), some (.int (a2))] [] h G23
          refine X_iconst (v := nI (1)) C (D (83, .iconst 1, 1) (mg 43 rfl)) (by decide) ?_
          exact X_iret C (D (84, .ireturn, 1) (mg 44 rfl)) ⟨Or.inl ⟨(by unfold frP; omega), rfl⟩, (wI_r hI)⟩
        · skip
          refine X_aload_n C 0 (D (62, .aload_n 0, 1) (mg 30 rfl)) rfl rfl ?_
          refine X_bipush (v := nI (100)) C (D (63, .bipush 100, 2) (mg 31 rfl)) (by decide) ?_
          refine X_iload_n C 2 (D (65, .iload_n 2, 1) (mg 32 rfl)) rfl rfl ?_
          refine X_iload_n C 2 (D (66, .iload_n 2, 1) (mg 33 rfl)) rfl rfl ?_
          refine X_imul C (D (67, .imul, 1) (mg 34 rfl)) ?_
          refine X_isub C (D (68, .isub, 1) (mg 35 rfl)) ?_
          refine X_bipush (v := nI (100)) C (D (69, .bipush 100, 2) (mg 36 rfl)) (by decide) ?_
          refine X_cV (As := [.int ((nI (100)) - (a2 * a2)), .int (nI (100))]) (st := []) C (post := _) (x) (by omega) hsx rfl (ct_X7_setFraction hw hC0 ((nI (100)) - (a2 * a2)) (nI (100)) h g) kX7_224 (by decide) (by decide) rfl rfl (Nat.le_of_ble_eq_true rfl) (D (71, .invokevirtual 224, 3) (mg 37 rfl)) rfl (fun v27 H25 G26 hv27 => ?_)
          obtain ⟨rfl, rfl⟩ := hv27
          show X k w _ 74 [some (.ref (wA w (x))), some (.int (nI (n8))), some (.int (a2))] [] h G26
          refine X_goto (tgt := 83) C (D (74, .goto 9, 3) (mg 38 rfl)) (by decide) ?_
          refine X_iconst (v := nI (1)) C (D (83, .iconst 1, 1) (mg 43 rfl)) (by decide) ?_
          exact X_iret C (D (84, .ireturn, 1) (mg 44 rfl)) ⟨Or.inl ⟨(by unfold frP; omega), rfl⟩, (wI_r hI)⟩
      · skip
        refine X_aload_n C 0 (D (38, .aload_n 0, 1) (mg 18 rfl)) rfl rfl ?_
        refine X_iconst (v := nI (1)) C (D (39, .iconst 1, 1) (mg 19 rfl)) (by decide) ?_
        refine X_iconst (v := nI (1)) C (D (40, .iconst 1, 1) (mg 20 rfl)) (by decide) ?_
        refine X_cV (As := [.int (nI (1)), .int (nI (1))]) (st := []) C (post := _) (x) (by omega) hsx rfl (ct_X7_setFraction hw hC0 (nI (1)) (nI (1)) h g) kX7_224 (by decide) (by decide) rfl rfl (Nat.le_of_ble_eq_true rfl) (D (41, .invokevirtual 224, 3) (mg 21 rfl)) rfl (fun v30 H28 G29 hv30 => ?_)
        obtain ⟨rfl, rfl⟩ := hv30
        show X k w _ 44 [some (.ref (wA w (x))), some (.int (nI (n8))), some (.int (a2))] [] h G29
        refine X_goto (tgt := 83) C (D (44, .goto 39, 3) (mg 22 rfl)) (by decide) ?_
        refine X_iconst (v := nI (1)) C (D (83, .iconst 1, 1) (mg 43 rfl)) (by decide) ?_
        exact X_iret C (D (84, .ireturn, 1) (mg 44 rfl)) ⟨Or.inl ⟨(by unfold frP; omega), rfl⟩, (wI_r hI)⟩
    · skip
      have q12 : ¬ (0 ≤ (a2).toInt ∧ (a2).toInt < ((11 : Nat) : Int)) := bz0.mp q12
      refine X_aload_n C 0 (D (18, .aload_n 0, 1) (mg 8 rfl)) rfl rfl ?_
      refine X_cV (As := []) (st := []) C (post := _) (x) (by omega) hsx rfl (ct_X7_refuseBad hw hC0 h g) kX7_57 (by decide) (by decide) rfl rfl (Nat.le_of_ble_eq_true rfl) (D (19, .invokevirtual 57, 3) (mg 9 rfl)) rfl (fun v33 H31 G32 hv33 => ?_)
      obtain ⟨rfl, rfl, rfl⟩ := hv33
      show X k w _ 22 [some (.ref (wA w (x))), some (.int (nI (n8))), some (.int (a2))] [.int ((-2 : Int32))] (rcH h (x) 9) g
      exact X_iret C (D (22, .ireturn, 1) (mg 10 rfl)) ⟨Or.inr ⟨(by unfold frP; omega), rfl⟩, ⟨fun q i z0 => by have z := z0; unfold SW at z; rw [rcH_ne _ _ _ (by omega)], ⟨c0, (by omega), (((rcH_ne _ _ _ (by omega))).trans hat)⟩, (paOk_k (fun q i z => by rw [rcH_ne _ _ _ (by omega)]) hpa)⟩⟩
set_option maxHeartbeats 4000000 in
set_option maxRecDepth 100000 in
theorem ct_X7_digest {l : Launch} {w : Kw} (hw : wOk w) {x : Nat} (hC : shC w x) (h : xI) (g : xJ) (hI : cOk h x) : Ct l w yX7_digest cX7_digest 4 (some .long) 6 134 [.ref (wA w (x))] h g (pQl (wI x h)) := by
  refine Ct_of (ls := [some (.ref (wA w (x))), none, none, none]) (by decide) hw (Nat.le_of_ble_eq_true rfl) rfl (fun k hkl C => ?_)
  have C : Cx k w cX7_digest RX7 4 (some .long) 6 134 := C
  have D := dtX7_digest
  subst hkl
  have hC0 := hC
  obtain ⟨hxn, hsx, hT, hsi, hTa, hTb, hsk, hNs, hY, hX, hsv⟩ := hC
  have hY2 := hY.1
  have hX2 := hX.1
  have hI0 := hI
  obtain ⟨⟨⟨c0, hc0, hat⟩, hpa, ⟨ns, hns, hse⟩, ⟨nm, hnm, hma⟩⟩, -, -, ⟨nt, hnt, htx⟩, ⟨ct, hct, hatx⟩⟩ := hI
  have hI := hI0
  refine X_ldc2 C (D (0, .ldc2_w 265, 3) (mg 0 rfl)) vX7_265 ?_
  refine X_lstore_n (ls' := [some (.ref (wA w (x))), some (.long ((1741 : Int64))), none, none]) C 1 (D (3, .lstore_n 1, 1) (mg 1 rfl)) rfl (Nat.le_of_ble_eq_true rfl) rfl ?_
  refine X_iconst (v := nI (0)) C (D (4, .iconst 0, 1) (mg 2 rfl)) (by decide) ?_
  refine X_istore_n (ls' := [some (.ref (wA w (x))), some (.long ((1741 : Int64))), none, some (.int (nI (0)))]) C 3 (D (5, .istore_n 3, 1) (mg 3 rfl)) rfl (Nat.le_of_ble_eq_true rfl) rfl ?_
  have lp6 : ∀ (nn6 : Nat) (j : Nat) (d : Int64), (j ≤ 10) → 11 - j ≤ nn6 → X k w (Zq k w (pQl (wI x h))) 6 [some (.ref (wA w (x))), some (.long (d)), none, some (.int (nI (j)))] [] h g := by
    intro nn6
    induction nn6 with
    | zero => intro j d hc6_0 hz; exact absurd hz (by omega)
    | succ nn6 ih6 =>
      intro j d hc6_0 hz6
      refine X_iload_n C 3 (D (6, .iload_n 3, 1) (mg 4 rfl)) rfl rfl ?_
      refine X_bipush (v := nI (10)) C (D (7, .bipush 10, 2) (mg 5 rfl)) (by decide) ?_
      refine X_icmp_ge (tgt := 31) C (D (9, .if_icmp .ge 22, 3) (mg 6 rfl)) (by decide) (fun q1 => ?_) (fun q1 => ?_)
      · skip
        have q1 : (j) ≥ (10) := by have z := (nI_leI (a := (10)) (b := (j)) (by omega) (by omega)).mp q1; omega
        refine X_iconst (v := nI (0)) C (D (31, .iconst 0, 1) (mg 18 rfl)) (by decide) ?_
        refine X_istore_n (ls' := [some (.ref (wA w (x))), some (.long (d)), none, some (.int (nI (0)))]) C 3 (D (32, .istore_n 3, 1) (mg 19 rfl)) rfl (Nat.le_of_ble_eq_true rfl) rfl ?_
        have lp33 : ∀ (nn33 : Nat) (j : Nat) (d : Int64), (j ≤ 25) → 26 - j ≤ nn33 → X k w (Zq k w (pQl (wI x h))) 33 [some (.ref (wA w (x))), some (.long (d)), none, some (.int (nI (j)))] [] h g := by
          intro nn33
          induction nn33 with
          | zero => intro j d hc33_0 hz; exact absurd hz (by omega)
          | succ nn33 ih33 =>
            intro j d hc33_0 hz33
            refine X_iload_n C 3 (D (33, .iload_n 3, 1) (mg 20 rfl)) rfl rfl ?_
            refine X_bipush (v := nI (25)) C (D (34, .bipush 25, 2) (mg 21 rfl)) (by decide) ?_
            refine X_icmp_ge (tgt := 122) C (D (36, .if_icmp .ge 86, 3) (mg 22 rfl)) (by decide) (fun q2 => ?_) (fun q2 => ?_)
            · skip
              have q2 : (j) ≥ (25) := by have z := (nI_leI (a := (25)) (b := (j)) (by omega) (by omega)).mp q2; omega
              refine X_iconst (v := nI (0)) C (D (122, .iconst 0, 1) (mg 70 rfl)) (by decide) ?_
              refine X_istore_n (ls' := [some (.ref (wA w (x))), some (.long (d)), none, some (.int (nI (0)))]) C 3 (D (123, .istore_n 3, 1) (mg 71 rfl)) rfl (Nat.le_of_ble_eq_true rfl) rfl ?_
              have lp124 : ∀ (nn124 : Nat) (j : Nat) (d : Int64), (j ≤ ns * 4) → 21 - j ≤ nn124 → X k w (Zq k w (pQl (wI x h))) 124 [some (.ref (wA w (x))), some (.long (d)), none, some (.int (nI (j)))] [] h g := by
                intro nn124
                induction nn124 with
                | zero => intro j d hc124_0 hz; exact absurd hz (by omega)
                | succ nn124 ih124 =>
                  intro j d hc124_0 hz124
                  refine X_iload_n C 3 (D (124, .iload_n 3, 1) (mg 72 rfl)) rfl rfl ?_
                  refine X_aload_n C 0 (D (125, .aload_n 0, 1) (mg 73 rfl)) rfl rfl ?_
                  refine X_get (v := .ref (wA w (x + 1))) C (x) 0 (by omega) hsx rfl rfl (by decide) inX7 fX7_10 rfl (D (126, .getfield 10, 3) (mg 74 rfl)) rfl ?_
                  refine X_get (v := .int (h (x + 1) 4)) C (x + 1) 4 (by omega) hT.2.1 rfl rfl (by decide) inX4 fX7_185 rfl (D (129, .getfield 185, 3) (mg 75 rfl)) rfl ?_
                  refine X_ti (y := nI (ns)) (hse) ?_
                  refine X_iconst (v := nI (4)) C (D (132, .iconst 4, 1) (mg 76 rfl)) (by decide) ?_
                  refine X_imul C (D (133, .imul, 1) (mg 77 rfl)) ?_
                  refine X_ti (y := nI ((ns) * (4))) (pk_mul (ns) (4)) ?_
                  refine X_icmp_ge (tgt := 160) C (D (134, .if_icmp .ge 26, 3) (mg 78 rfl)) (by decide) (fun q3 => ?_) (fun q3 => ?_)
                  · skip
                    have q3 : (j) ≥ ((ns) * (4)) := by have z := (nI_leI (a := ((ns) * (4))) (b := (j)) (by omega) (by omega)).mp q3; omega
                    refine X_iconst (v := nI (0)) C (D (160, .iconst 0, 1) (mg 92 rfl)) (by decide) ?_
                    refine X_istore_n (ls' := [some (.ref (wA w (x))), some (.long (d)), none, some (.int (nI (0)))]) C 3 (D (161, .istore_n 3, 1) (mg 93 rfl)) rfl (Nat.le_of_ble_eq_true rfl) rfl ?_
                    have lp162 : ∀ (nn162 : Nat) (j : Nat) (d : Int64), (j ≤ nm * 3) → 19 - j ≤ nn162 → X k w (Zq k w (pQl (wI x h))) 162 [some (.ref (wA w (x))), some (.long (d)), none, some (.int (nI (j)))] [] h g := by
                      intro nn162
                      induction nn162 with
                      | zero => intro j d hc162_0 hz; exact absurd hz (by omega)
                      | succ nn162 ih162 =>
                        intro j d hc162_0 hz162
                        refine X_iload_n C 3 (D (162, .iload_n 3, 1) (mg 94 rfl)) rfl rfl ?_
                        refine X_aload_n C 0 (D (163, .aload_n 0, 1) (mg 95 rfl)) rfl rfl ?_
                        refine X_get (v := .ref (wA w (x + 1))) C (x) 0 (by omega) hsx rfl rfl (by decide) inX7 fX7_10 rfl (D (164, .getfield 10, 3) (mg 96 rfl)) rfl ?_
                        refine X_get (v := .int (h (x + 1) 5)) C (x + 1) 5 (by omega) hT.2.1 rfl rfl (by decide) inX4 fX7_203 rfl (D (167, .getfield 203, 3) (mg 97 rfl)) rfl ?_
                        refine X_ti (y := nI (nm)) (hma) ?_
                        refine X_iconst (v := nI (3)) C (D (170, .iconst 3, 1) (mg 98 rfl)) (by decide) ?_
                        refine X_imul C (D (171, .imul, 1) (mg 99 rfl)) ?_
                        refine X_ti (y := nI ((nm) * (3))) (pk_mul (nm) (3)) ?_
                        refine X_icmp_ge (tgt := 198) C (D (172, .if_icmp .ge 26, 3) (mg 100 rfl)) (by decide) (fun q4 => ?_) (fun q4 => ?_)
                        · skip
                          have q4 : (j) ≥ ((nm) * (3)) := by have z := (nI_leI (a := ((nm) * (3))) (b := (j)) (by omega) (by omega)).mp q4; omega
                          refine X_ldc2 C (D (198, .ldc2_w 267, 3) (mg 114 rfl)) vX7_267 ?_
                          refine X_lload_n C 1 (D (201, .lload_n 1, 1) (mg 115 rfl)) rfl rfl ?_
                          refine X_lmul C (D (202, .lmul, 1) (mg 116 rfl)) ?_
                          refine X_aload_n C 0 (D (203, .aload_n 0, 1) (mg 117 rfl)) rfl rfl ?_
                          refine X_get (v := .long (g (x) 7)) C (x) 7 (by omega) hsx rfl rfl (by decide) inX7 fX7_246 rfl (D (204, .getfield 246, 3) (mg 118 rfl)) rfl ?_
                          refine X_ladd C (D (207, .ladd, 1) (mg 119 rfl)) ?_
                          refine X_lstore_n (ls' := [some (.ref (wA w (x))), some (.long ((((31 : Int64)) * d) + (g (x) 7))), none, some (.int (nI (j)))]) C 1 (D (208, .lstore_n 1, 1) (mg 120 rfl)) rfl (Nat.le_of_ble_eq_true rfl) rfl ?_
                          refine X_ldc2 C (D (209, .ldc2_w 267, 3) (mg 121 rfl)) vX7_267 ?_
                          refine X_lload_n C 1 (D (212, .lload_n 1, 1) (mg 122 rfl)) rfl rfl ?_
                          refine X_lmul C (D (213, .lmul, 1) (mg 123 rfl)) ?_
                          refine X_aload_n C 0 (D (214, .aload_n 0, 1) (mg 124 rfl)) rfl rfl ?_
                          refine X_get (v := .long (g (x) 8)) C (x) 8 (by omega) hsx rfl rfl (by decide) inX7 fX7_49 rfl (D (215, .getfield 49, 3) (mg 125 rfl)) rfl ?_
                          refine X_ladd C (D (218, .ladd, 1) (mg 126 rfl)) ?_
                          exact X_lret C (D (219, .lreturn, 1) (mg 127 rfl)) ⟨⟨_, rfl⟩, (wI_r hI)⟩
                        · skip
                          have q4 : (j) < ((nm) * (3)) := by have z : ¬ (((nm) * (3)) ≤ (j)) := fun u => q4 ((nI_leI (a := ((nm) * (3))) (b := (j)) (by omega) (by omega)).mpr u); omega
                          refine X_ldc2 C (D (175, .ldc2_w 267, 3) (mg 101 rfl)) vX7_267 ?_
                          refine X_lload_n C 1 (D (178, .lload_n 1, 1) (mg 102 rfl)) rfl rfl ?_
                          refine X_lmul C (D (179, .lmul, 1) (mg 103 rfl)) ?_
                          refine X_aload_n C 0 (D (180, .aload_n 0, 1) (mg 104 rfl)) rfl rfl ?_
                          refine X_get (v := .ref (wA w (x + 1))) C (x) 0 (by omega) hsx rfl rfl (by decide) inX7 fX7_10 rfl (D (181, .getfield 10, 3) (mg 105 rfl)) rfl ?_
                          refine X_get (v := .ref (wA w (x + 8))) C (x + 1) 3 (by omega) hT.2.1 rfl rfl (by decide) inX4 fX7_206 rfl (D (184, .getfield 206, 3) (mg 106 rfl)) rfl ?_
                          refine X_iload_n C 3 (D (187, .iload_n 3, 1) (mg 107 rfl)) rfl rfl ?_
                          refine X_iald (v := h (x + 8) (j)) C (x + 8) (by omega) hT.2.2.2.2.2 (vp_in_nI (by omega) (by omega)) (D (188, .iaload, 1) (mg 108 rfl)) (by rw [nI_clamp (by omega)]) ?_
                          refine X_i2l C (D (189, .i2l, 1) (mg 109 rfl)) ?_
                          refine X_ladd C (D (190, .ladd, 1) (mg 110 rfl)) ?_
                          refine X_lstore_n (ls' := [some (.ref (wA w (x))), some (.long ((((31 : Int64)) * d) + ((h (x + 8) (j)).toInt64))), none, some (.int (nI (j)))]) C 1 (D (191, .lstore_n 1, 1) (mg 111 rfl)) rfl (Nat.le_of_ble_eq_true rfl) rfl ?_
                          refine X_iinc (v := nI (j + 1)) (ls' := [some (.ref (wA w (x))), some (.long ((((31 : Int64)) * d) + ((h (x + 8) (j)).toInt64))), none, some (.int (nI (j + 1)))]) C (D (192, .iinc 3 1, 3) (mg 112 rfl)) rfl (nI_add (j) 1) rfl ?_
                          refine X_goto (tgt := 162) C (D (195, .goto (-33), 3) (mg 113 rfl)) (by decide) ?_
                          refine X_eq (ls' := [some (.ref (wA w (x))), some (.long ((((31 : Int64)) * d) + ((h (x + 8) (j)).toInt64))), none, some (.int (nI (j + 1)))]) (st' := []) (h' := h) (g' := g) rfl rfl rfl rfl ?_
                          exact ih162 (j + 1) ((((31 : Int64)) * d) + ((h (x + 8) (j)).toInt64)) (by omega) (by omega)
                    refine X_eq (ls' := [some (.ref (wA w (x))), some (.long (d)), none, some (.int (nI (0)))]) (st' := []) (h' := h) (g' := g) rfl rfl rfl rfl ?_
                    exact lp162 _ (0) (d) (by omega) (Nat.le_refl _)
                  · skip
                    have q3 : (j) < ((ns) * (4)) := by have z : ¬ (((ns) * (4)) ≤ (j)) := fun u => q3 ((nI_leI (a := ((ns) * (4))) (b := (j)) (by omega) (by omega)).mpr u); omega
                    refine X_ldc2 C (D (137, .ldc2_w 267, 3) (mg 79 rfl)) vX7_267 ?_
                    refine X_lload_n C 1 (D (140, .lload_n 1, 1) (mg 80 rfl)) rfl rfl ?_
                    refine X_lmul C (D (141, .lmul, 1) (mg 81 rfl)) ?_
                    refine X_aload_n C 0 (D (142, .aload_n 0, 1) (mg 82 rfl)) rfl rfl ?_
                    refine X_get (v := .ref (wA w (x + 1))) C (x) 0 (by omega) hsx rfl rfl (by decide) inX7 fX7_10 rfl (D (143, .getfield 10, 3) (mg 83 rfl)) rfl ?_
                    refine X_get (v := .ref (wA w (x + 7))) C (x + 1) 2 (by omega) hT.2.1 rfl rfl (by decide) inX4 fX7_188 rfl (D (146, .getfield 188, 3) (mg 84 rfl)) rfl ?_
                    refine X_iload_n C 3 (D (149, .iload_n 3, 1) (mg 85 rfl)) rfl rfl ?_
                    refine X_iald (v := h (x + 7) (j)) C (x + 7) (by omega) hT.2.2.2.2.1 (vp_in_nI (by omega) (by omega)) (D (150, .iaload, 1) (mg 86 rfl)) (by rw [nI_clamp (by omega)]) ?_
                    refine X_i2l C (D (151, .i2l, 1) (mg 87 rfl)) ?_
                    refine X_ladd C (D (152, .ladd, 1) (mg 88 rfl)) ?_
                    refine X_lstore_n (ls' := [some (.ref (wA w (x))), some (.long ((((31 : Int64)) * d) + ((h (x + 7) (j)).toInt64))), none, some (.int (nI (j)))]) C 1 (D (153, .lstore_n 1, 1) (mg 89 rfl)) rfl (Nat.le_of_ble_eq_true rfl) rfl ?_
                    refine X_iinc (v := nI (j + 1)) (ls' := [some (.ref (wA w (x))), some (.long ((((31 : Int64)) * d) + ((h (x + 7) (j)).toInt64))), none, some (.int (nI (j + 1)))]) C (D (154, .iinc 3 1, 3) (mg 90 rfl)) rfl (nI_add (j) 1) rfl ?_
                    refine X_goto (tgt := 124) C (D (157, .goto (-33), 3) (mg 91 rfl)) (by decide) ?_
                    refine X_eq (ls' := [some (.ref (wA w (x))), some (.long ((((31 : Int64)) * d) + ((h (x + 7) (j)).toInt64))), none, some (.int (nI (j + 1)))]) (st' := []) (h' := h) (g' := g) rfl rfl rfl rfl ?_
                    exact ih124 (j + 1) ((((31 : Int64)) * d) + ((h (x + 7) (j)).toInt64)) (by omega) (by omega)
              refine X_eq (ls' := [some (.ref (wA w (x))), some (.long (d)), none, some (.int (nI (0)))]) (st' := []) (h' := h) (g' := g) rfl rfl rfl rfl ?_
              exact lp124 _ (0) (d) (by omega) (Nat.le_refl _)
            · skip
              have q2 : (j) < (25) := by have z : ¬ ((25) ≤ (j)) := fun u => q2 ((nI_leI (a := (25)) (b := (j)) (by omega) (by omega)).mpr u); omega
              refine X_ldc2 C (D (39, .ldc2_w 267, 3) (mg 23 rfl)) vX7_267 ?_
              refine X_lload_n C 1 (D (42, .lload_n 1, 1) (mg 24 rfl)) rfl rfl ?_
              refine X_lmul C (D (43, .lmul, 1) (mg 25 rfl)) ?_
              refine X_aload_n C 0 (D (44, .aload_n 0, 1) (mg 26 rfl)) rfl rfl ?_
              refine X_get (v := .ref (wA w (x + 1))) C (x) 0 (by omega) hsx rfl rfl (by decide) inX7 fX7_10 rfl (D (45, .getfield 10, 3) (mg 27 rfl)) rfl ?_
              refine X_get (v := .ref (wA w (x + 2))) C (x + 1) 0 (by omega) hT.2.1 rfl rfl (by decide) inX4 fX7_61 rfl (D (48, .getfield 61, 3) (mg 28 rfl)) rfl ?_
              refine X_get (v := .ref (wA w (x + 3))) C (x + 2) 0 (by omega) hT.2.2.1.2.1 rfl rfl (by decide) inX1 fX7_87 rfl (D (51, .getfield 87, 3) (mg 29 rfl)) rfl ?_
              refine X_iload_n C 3 (D (54, .iload_n 3, 1) (mg 30 rfl)) rfl rfl ?_
              refine X_iald (v := h (x + 3) (j)) C (x + 3) (by omega) hT.2.2.1.2.2.1 (vp_in_nI (by omega) (by omega)) (D (55, .iaload, 1) (mg 31 rfl)) (by rw [nI_clamp (by omega)]) ?_
              refine X_i2l C (D (56, .i2l, 1) (mg 32 rfl)) ?_
              refine X_ladd C (D (57, .ladd, 1) (mg 33 rfl)) ?_
              refine X_lstore_n (ls' := [some (.ref (wA w (x))), some (.long ((((31 : Int64)) * d) + ((h (x + 3) (j)).toInt64))), none, some (.int (nI (j)))]) C 1 (D (58, .lstore_n 1, 1) (mg 34 rfl)) rfl (Nat.le_of_ble_eq_true rfl) rfl ?_
              refine X_ldc2 C (D (59, .ldc2_w 267, 3) (mg 35 rfl)) vX7_267 ?_
              refine X_lload_n C 1 (D (62, .lload_n 1, 1) (mg 36 rfl)) rfl rfl ?_
              refine X_lmul C (D (63, .lmul, 1) (mg 37 rfl)) ?_
              refine X_aload_n C 0 (D (64, .aload_n 0, 1) (mg 38 rfl)) rfl rfl ?_
              refine X_get (v := .ref (wA w (x + 1))) C (x) 0 (by omega) hsx rfl rfl (by decide) inX7 fX7_10 rfl (D (65, .getfield 10, 3) (mg 39 rfl)) rfl ?_
              refine X_get (v := .ref (wA w (x + 2))) C (x + 1) 0 (by omega) hT.2.1 rfl rfl (by decide) inX4 fX7_61 rfl (D (68, .getfield 61, 3) (mg 40 rfl)) rfl ?_
              refine X_iload_n C 3 (D (71, .iload_n 3, 1) (mg 41 rfl)) rfl rfl ?_
              refine X_cV (As := [.int (nI (j))]) (st := [.long (((31 : Int64)) * ((((31 : Int64)) * d) + ((h (x + 3) (j)).toInt64)))]) C (post := _) (x + 2) (by omega) hT.2.2.1.2.1 rfl (ct_X1_kindIn hw (n := x + 2) hT.2.2.1 (j := j) (by omega) h g) kX7_148 (by decide) (by decide) rfl rfl (Nat.le_of_ble_eq_true rfl) (D (72, .invokevirtual 148, 3) (mg 42 rfl)) rfl (fun v7 H5 G6 hv7 => ?_)
              obtain ⟨rfl, rfl, rfl⟩ := hv7
              show X k w _ 75 [some (.ref (wA w (x))), some (.long ((((31 : Int64)) * d) + ((h (x + 3) (j)).toInt64))), none, some (.int (nI (j)))] [.int (cK (h (x + 4) (j))), .long (((31 : Int64)) * ((((31 : Int64)) * d) + ((h (x + 3) (j)).toInt64)))] h g
              refine X_i2l C (D (75, .i2l, 1) (mg 43 rfl)) ?_
              refine X_ladd C (D (76, .ladd, 1) (mg 44 rfl)) ?_
              refine X_lstore_n (ls' := [some (.ref (wA w (x))), some (.long ((((31 : Int64)) * ((((31 : Int64)) * d) + ((h (x + 3) (j)).toInt64))) + ((cK (h (x + 4) (j))).toInt64))), none, some (.int (nI (j)))]) C 1 (D (77, .lstore_n 1, 1) (mg 45 rfl)) rfl (Nat.le_of_ble_eq_true rfl) rfl ?_
              refine X_ldc2 C (D (78, .ldc2_w 267, 3) (mg 46 rfl)) vX7_267 ?_
              refine X_lload_n C 1 (D (81, .lload_n 1, 1) (mg 47 rfl)) rfl rfl ?_
              refine X_lmul C (D (82, .lmul, 1) (mg 48 rfl)) ?_
              refine X_aload_n C 0 (D (83, .aload_n 0, 1) (mg 49 rfl)) rfl rfl ?_
              refine X_get (v := .ref (wA w (x + 1))) C (x) 0 (by omega) hsx rfl rfl (by decide) inX7 fX7_10 rfl (D (84, .getfield 10, 3) (mg 50 rfl)) rfl ?_
              refine X_get (v := .ref (wA w (x + 2))) C (x + 1) 0 (by omega) hT.2.1 rfl rfl (by decide) inX4 fX7_61 rfl (D (87, .getfield 61, 3) (mg 51 rfl)) rfl ?_
              refine X_iload_n C 3 (D (90, .iload_n 3, 1) (mg 52 rfl)) rfl rfl ?_
              refine X_cV (As := [.int (nI (j))]) (st := [.long (((31 : Int64)) * ((((31 : Int64)) * ((((31 : Int64)) * d) + ((h (x + 3) (j)).toInt64))) + ((cK (h (x + 4) (j))).toInt64)))]) C (post := _) (x + 2) (by omega) hT.2.2.1.2.1 rfl (ct_X1_depthIn hw (n := x + 2) hT.2.2.1 (j := j) (by omega) h g) kX7_151 (by decide) (by decide) rfl rfl (Nat.le_of_ble_eq_true rfl) (D (91, .invokevirtual 151, 3) (mg 53 rfl)) rfl (fun v10 H8 G9 hv10 => ?_)
              obtain ⟨rfl, rfl, rfl⟩ := hv10
              show X k w _ 94 [some (.ref (wA w (x))), some (.long ((((31 : Int64)) * ((((31 : Int64)) * d) + ((h (x + 3) (j)).toInt64))) + ((cK (h (x + 4) (j))).toInt64))), none, some (.int (nI (j)))] [.int (cD (h (x + 4) (j))), .long (((31 : Int64)) * ((((31 : Int64)) * ((((31 : Int64)) * d) + ((h (x + 3) (j)).toInt64))) + ((cK (h (x + 4) (j))).toInt64)))] h g
              refine X_i2l C (D (94, .i2l, 1) (mg 54 rfl)) ?_
              refine X_ladd C (D (95, .ladd, 1) (mg 55 rfl)) ?_
              refine X_lstore_n (ls' := [some (.ref (wA w (x))), some (.long ((((31 : Int64)) * ((((31 : Int64)) * ((((31 : Int64)) * d) + ((h (x + 3) (j)).toInt64))) + ((cK (h (x + 4) (j))).toInt64))) + ((cD (h (x + 4) (j))).toInt64))), none, some (.int (nI (j)))]) C 1 (D (96, .lstore_n 1, 1) (mg 56 rfl)) rfl (Nat.le_of_ble_eq_true rfl) rfl ?_
              refine X_ldc2 C (D (97, .ldc2_w 267, 3) (mg 57 rfl)) vX7_267 ?_
              refine X_lload_n C 1 (D (100, .lload_n 1, 1) (mg 58 rfl)) rfl rfl ?_
              refine X_lmul C (D (101, .lmul, 1) (mg 59 rfl)) ?_
              refine X_aload_n C 0 (D (102, .aload_n 0, 1) (mg 60 rfl)) rfl rfl ?_
              refine X_get (v := .ref (wA w (x + 1))) C (x) 0 (by omega) hsx rfl rfl (by decide) inX7 fX7_10 rfl (D (103, .getfield 10, 3) (mg 61 rfl)) rfl ?_
              refine X_get (v := .ref (wA w (x + 2))) C (x + 1) 0 (by omega) hT.2.1 rfl rfl (by decide) inX4 fX7_61 rfl (D (106, .getfield 61, 3) (mg 62 rfl)) rfl ?_
              refine X_iload_n C 3 (D (109, .iload_n 3, 1) (mg 63 rfl)) rfl rfl ?_
              refine X_cV (As := [.int (nI (j))]) (st := [.long (((31 : Int64)) * ((((31 : Int64)) * ((((31 : Int64)) * ((((31 : Int64)) * d) + ((h (x + 3) (j)).toInt64))) + ((cK (h (x + 4) (j))).toInt64))) + ((cD (h (x + 4) (j))).toInt64)))]) C (post := _) (x + 2) (by omega) hT.2.2.1.2.1 rfl (ct_X1_ageIn hw (n := x + 2) hT.2.2.1 (j := j) (by omega) h g) kX7_154 (by decide) (by decide) rfl rfl (Nat.le_of_ble_eq_true rfl) (D (110, .invokevirtual 154, 3) (mg 64 rfl)) rfl (fun v13 H11 G12 hv13 => ?_)
              obtain ⟨rfl, rfl, rfl⟩ := hv13
              show X k w _ 113 [some (.ref (wA w (x))), some (.long ((((31 : Int64)) * ((((31 : Int64)) * ((((31 : Int64)) * d) + ((h (x + 3) (j)).toInt64))) + ((cK (h (x + 4) (j))).toInt64))) + ((cD (h (x + 4) (j))).toInt64))), none, some (.int (nI (j)))] [.int (cA (h (x + 4) (j))), .long (((31 : Int64)) * ((((31 : Int64)) * ((((31 : Int64)) * ((((31 : Int64)) * d) + ((h (x + 3) (j)).toInt64))) + ((cK (h (x + 4) (j))).toInt64))) + ((cD (h (x + 4) (j))).toInt64)))] h g
              refine X_i2l C (D (113, .i2l, 1) (mg 65 rfl)) ?_
              refine X_ladd C (D (114, .ladd, 1) (mg 66 rfl)) ?_
              refine X_lstore_n (ls' := [some (.ref (wA w (x))), some (.long ((((31 : Int64)) * ((((31 : Int64)) * ((((31 : Int64)) * ((((31 : Int64)) * d) + ((h (x + 3) (j)).toInt64))) + ((cK (h (x + 4) (j))).toInt64))) + ((cD (h (x + 4) (j))).toInt64))) + ((cA (h (x + 4) (j))).toInt64))), none, some (.int (nI (j)))]) C 1 (D (115, .lstore_n 1, 1) (mg 67 rfl)) rfl (Nat.le_of_ble_eq_true rfl) rfl ?_
              refine X_iinc (v := nI (j + 1)) (ls' := [some (.ref (wA w (x))), some (.long ((((31 : Int64)) * ((((31 : Int64)) * ((((31 : Int64)) * ((((31 : Int64)) * d) + ((h (x + 3) (j)).toInt64))) + ((cK (h (x + 4) (j))).toInt64))) + ((cD (h (x + 4) (j))).toInt64))) + ((cA (h (x + 4) (j))).toInt64))), none, some (.int (nI (j + 1)))]) C (D (116, .iinc 3 1, 3) (mg 68 rfl)) rfl (nI_add (j) 1) rfl ?_
              refine X_goto (tgt := 33) C (D (119, .goto (-86), 3) (mg 69 rfl)) (by decide) ?_
              refine X_eq (ls' := [some (.ref (wA w (x))), some (.long ((((31 : Int64)) * ((((31 : Int64)) * ((((31 : Int64)) * ((((31 : Int64)) * d) + ((h (x + 3) (j)).toInt64))) + ((cK (h (x + 4) (j))).toInt64))) + ((cD (h (x + 4) (j))).toInt64))) + ((cA (h (x + 4) (j))).toInt64))), none, some (.int (nI (j + 1)))]) (st' := []) (h' := h) (g' := g) rfl rfl rfl rfl ?_
              exact ih33 (j + 1) ((((31 : Int64)) * ((((31 : Int64)) * ((((31 : Int64)) * ((((31 : Int64)) * d) + ((h (x + 3) (j)).toInt64))) + ((cK (h (x + 4) (j))).toInt64))) + ((cD (h (x + 4) (j))).toInt64))) + ((cA (h (x + 4) (j))).toInt64)) (by omega) (by omega)
        refine X_eq (ls' := [some (.ref (wA w (x))), some (.long (d)), none, some (.int (nI (0)))]) (st' := []) (h' := h) (g' := g) rfl rfl rfl rfl ?_
        exact lp33 _ (0) (d) (by omega) (Nat.le_refl _)
      · skip
        have q1 : (j) < (10) := by have z : ¬ ((10) ≤ (j)) := fun u => q1 ((nI_leI (a := (10)) (b := (j)) (by omega) (by omega)).mpr u); omega
        refine X_ldc2 C (D (12, .ldc2_w 267, 3) (mg 7 rfl)) vX7_267 ?_
        refine X_lload_n C 1 (D (15, .lload_n 1, 1) (mg 8 rfl)) rfl rfl ?_
        refine X_lmul C (D (16, .lmul, 1) (mg 9 rfl)) ?_
        refine X_aload_n C 0 (D (17, .aload_n 0, 1) (mg 10 rfl)) rfl rfl ?_
        refine X_iload_n C 3 (D (18, .iload_n 3, 1) (mg 11 rfl)) rfl rfl ?_
        refine X_cV (As := [.int (nI (j))]) (st := [.long (((31 : Int64)) * d)]) C (post := _) (x) (by omega) hsx rfl (ct_X7_howMany hw hC0 (nI (j)) h g hI) kX7_262 (by decide) (by decide) rfl rfl (Nat.le_of_ble_eq_true rfl) (D (19, .invokevirtual 262, 3) (mg 12 rfl)) rfl (fun v16 H14 G15 hv16 => ?_)
        obtain ⟨⟨y17, rfl⟩, rfl, rfl⟩ := hv16
        show X k w _ 22 [some (.ref (wA w (x))), some (.long (d)), none, some (.int (nI (j)))] [.int (y17), .long (((31 : Int64)) * d)] h g
        refine X_i2l C (D (22, .i2l, 1) (mg 13 rfl)) ?_
        refine X_ladd C (D (23, .ladd, 1) (mg 14 rfl)) ?_
        refine X_lstore_n (ls' := [some (.ref (wA w (x))), some (.long ((((31 : Int64)) * d) + ((y17).toInt64))), none, some (.int (nI (j)))]) C 1 (D (24, .lstore_n 1, 1) (mg 15 rfl)) rfl (Nat.le_of_ble_eq_true rfl) rfl ?_
        refine X_iinc (v := nI (j + 1)) (ls' := [some (.ref (wA w (x))), some (.long ((((31 : Int64)) * d) + ((y17).toInt64))), none, some (.int (nI (j + 1)))]) C (D (25, .iinc 3 1, 3) (mg 16 rfl)) rfl (nI_add (j) 1) rfl ?_
        refine X_goto (tgt := 6) C (D (28, .goto (-22), 3) (mg 17 rfl)) (by decide) ?_
        refine X_eq (ls' := [some (.ref (wA w (x))), some (.long ((((31 : Int64)) * d) + ((y17).toInt64))), none, some (.int (nI (j + 1)))]) (st' := []) (h' := h) (g' := g) rfl rfl rfl rfl ?_
        exact ih6 (j + 1) ((((31 : Int64)) * d) + ((y17).toInt64)) (by omega) (by omega)
  refine X_eq (ls' := [some (.ref (wA w (x))), some (.long ((1741 : Int64))), none, some (.int (nI (0)))]) (st' := []) (h' := h) (g' := g) rfl rfl rfl rfl ?_
  exact lp6 _ (0) ((1741 : Int64)) (by omega) (Nat.le_refl _)
