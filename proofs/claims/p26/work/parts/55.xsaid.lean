/-! PHASE 2, THE CLASS: said, kinds, deep, exact -/
abbrev fS (h : xI) (x kd : Nat) (c : Int32) (n : Nat) : Prop := ∀ s, s < n → (¬ h (x + 7) (s * 4) = c ∨ hiC (nI kd) (h (x + 7) (s * 4 + 1)) (h (x + 7) (s * 4 + 2)) = h (x + 7) (s * 4 + 3))
abbrev fK (h : xI) (x kd n : Nat) : Prop := ∀ s, s < n → deC (nI kd) (h (x + 8) (s * 3 + 1)) (h (x + 8) (s * 3)) = h (x + 8) (s * 3 + 2)
theorem dpB_n {P : Nat → Prop} [DecidablePred P] {n : Nat} (h : ¬ P n) : dpB P n = dpB P (n + 1) := by
  rw [← dpB_f h]
  exact (Int32.toBitVec_inj.mp (by rw [Int32.toBitVec_or, show (nI 0).toBitVec = 0#32 from rfl, BitVec.or_zero])).symm
set_option maxHeartbeats 4000000 in
set_option maxRecDepth 100000 in
theorem cx_X7_fitsSeen {l : Launch} {w : Kw} (hw : wOk w) {x : Nat} (hC : shC w x) {kd : Nat} (c : Int32) {ns : Nat} (hns : ns ≤ 5) (h : xI) (g : xJ) (hse : h (x + 1) 4 = nI ns) : Ct l w yX7_fitsSeen cX7_fitsSeen 6 (some .boolean) 2 46 [.ref (wA w (x)), .int (nI (kd)), .int (c)] h g (px (some (.int (if fS h x kd c ns then 1 else 0))) h g) := by
  refine Ct_of (ls := [some (.ref (wA w (x))), some (.int (nI (kd))), some (.int (c)), none, none, none]) (by decide) hw (Nat.le_of_ble_eq_true rfl) rfl (fun k hkl C => ?_)
  have C : Cx k w cX7_fitsSeen RX7 6 (some .boolean) 2 46 := C
  have D := dtX7_fitsSeen
  subst hkl
  have hC0 := hC
  obtain ⟨hxn, hsx, hT, hsi, hTa, hTb, hsk, hNs, hY, hX, hsv⟩ := hC
  have hY2 := hY.1
  have hX2 := hX.1
  refine X_iconst (v := nI (0)) C (D (0, .iconst 0, 1) (mg 0 rfl)) (by decide) ?_
  refine X_istore_n (ls' := [some (.ref (wA w (x))), some (.int (nI (kd))), some (.int (c)), some (.int (nI (0))), none, none]) C 3 (D (1, .istore_n 3, 1) (mg 1 rfl)) rfl (Nat.le_of_ble_eq_true rfl) rfl ?_
  have lp2 : ∀ (nn2 : Nat) (j : Nat), (j ≤ ns) → (∀ s, s < j → (¬ h (x + 7) (s * 4) = c ∨ hiC (nI kd) (h (x + 7) (s * 4 + 1)) (h (x + 7) (s * 4 + 2)) = h (x + 7) (s * 4 + 3))) → 6 - j ≤ nn2 → X k w (Zq k w (px (some (.int (if fS h x kd c ns then 1 else 0))) h g)) 2 [some (.ref (wA w (x))), some (.int (nI (kd))), some (.int (c)), some (.int (nI (j))), none, none] [] h g := by
    intro nn2
    induction nn2 with
    | zero => intro j hc2_0 hc2_1 hz; exact absurd hz (by omega)
    | succ nn2 ih2 =>
      intro j hc2_0 hc2_1 hz2
      refine X_iload_n C 3 (D (2, .iload_n 3, 1) (mg 2 rfl)) rfl rfl ?_
      refine X_aload_n C 0 (D (3, .aload_n 0, 1) (mg 3 rfl)) rfl rfl ?_
      refine X_get (v := .ref (wA w (x + 1))) C (x) 0 (by omega) hsx rfl rfl (by decide) inX7 fX7_10 rfl (D (4, .getfield 10, 3) (mg 4 rfl)) rfl ?_
      refine X_get (v := .int (h (x + 1) 4)) C (x + 1) 4 (by omega) hT.2.1 rfl rfl (by decide) inX4 fX7_185 rfl (D (7, .getfield 185, 3) (mg 5 rfl)) rfl ?_
      refine X_ti (y := nI (ns)) (hse) ?_
      refine X_icmp_ge (tgt := 87) C (D (10, .if_icmp .ge 77, 3) (mg 6 rfl)) (by decide) (fun q1 => ?_) (fun q1 => ?_)
      · skip
        have q1 : (j) ≥ (ns) := by have z := (nI_leI (a := (ns)) (b := (j)) (by omega) (by omega)).mp q1; omega
        refine X_iconst (v := nI (1)) C (D (87, .iconst 1, 1) (mg 48 rfl)) (by decide) ?_
        exact X_zret C (D (88, .ireturn, 1) (mg 49 rfl)) rfl ⟨pt (fun s hs => hc2_1 s (by omega)), rfl, rfl⟩
      · skip
        have q1 : (j) < (ns) := by have z : ¬ ((ns) ≤ (j)) := fun u => q1 ((nI_leI (a := (ns)) (b := (j)) (by omega) (by omega)).mpr u); omega
        refine X_iload_n C 3 (D (13, .iload_n 3, 1) (mg 7 rfl)) rfl rfl ?_
        refine X_iconst (v := nI (4)) C (D (14, .iconst 4, 1) (mg 8 rfl)) (by decide) ?_
        refine X_imul C (D (15, .imul, 1) (mg 9 rfl)) ?_
        refine X_ti (y := nI ((j) * (4))) (pk_mul (j) (4)) ?_
        refine X_istore (ls' := [some (.ref (wA w (x))), some (.int (nI (kd))), some (.int (c)), some (.int (nI (j))), some (.int (nI ((j) * (4)))), none]) C (D (16, .istore 4, 2) (mg 10 rfl)) (Nat.le_of_ble_eq_true rfl) rfl ?_
        refine X_iload_n C 1 (D (18, .iload_n 1, 1) (mg 11 rfl)) rfl rfl ?_
        refine X_aload_n C 0 (D (19, .aload_n 0, 1) (mg 12 rfl)) rfl rfl ?_
        refine X_get (v := .ref (wA w (x + 1))) C (x) 0 (by omega) hsx rfl rfl (by decide) inX7 fX7_10 rfl (D (20, .getfield 10, 3) (mg 13 rfl)) rfl ?_
        refine X_get (v := .ref (wA w (x + 7))) C (x + 1) 2 (by omega) hT.2.1 rfl rfl (by decide) inX4 fX7_188 rfl (D (23, .getfield 188, 3) (mg 14 rfl)) rfl ?_
        refine X_iload C (D (26, .iload 4, 2) (mg 15 rfl)) rfl ?_
        refine X_iconst (v := nI (1)) C (D (28, .iconst 1, 1) (mg 16 rfl)) (by decide) ?_
        refine X_iadd C (D (29, .iadd, 1) (mg 17 rfl)) ?_
        refine X_ti (y := nI ((j) * (4) + 1)) (nI_add ((j) * (4)) (1)) ?_
        refine X_iald (v := h (x + 7) ((j) * (4) + 1)) C (x + 7) (by omega) hT.2.2.2.2.1 (vp_in_nI (by omega) (by omega)) (D (30, .iaload, 1) (mg 18 rfl)) (by rw [nI_clamp (by omega)]) ?_
        refine X_aload_n C 0 (D (31, .aload_n 0, 1) (mg 19 rfl)) rfl rfl ?_
        refine X_get (v := .ref (wA w (x + 1))) C (x) 0 (by omega) hsx rfl rfl (by decide) inX7 fX7_10 rfl (D (32, .getfield 10, 3) (mg 20 rfl)) rfl ?_
        refine X_get (v := .ref (wA w (x + 7))) C (x + 1) 2 (by omega) hT.2.1 rfl rfl (by decide) inX4 fX7_188 rfl (D (35, .getfield 188, 3) (mg 21 rfl)) rfl ?_
        refine X_iload C (D (38, .iload 4, 2) (mg 22 rfl)) rfl ?_
        refine X_iconst (v := nI (2)) C (D (40, .iconst 2, 1) (mg 23 rfl)) (by decide) ?_
        refine X_iadd C (D (41, .iadd, 1) (mg 24 rfl)) ?_
        refine X_ti (y := nI ((j) * (4) + 2)) (nI_add ((j) * (4)) (2)) ?_
        refine X_iald (v := h (x + 7) ((j) * (4) + 2)) C (x + 7) (by omega) hT.2.2.2.2.1 (vp_in_nI (by omega) (by omega)) (D (42, .iaload, 1) (mg 25 rfl)) (by rw [nI_clamp (by omega)]) ?_
        refine X_cS (As := [.int (nI (kd)), .int (h (x + 7) ((j) * (4) + 1)), .int (h (x + 7) ((j) * (4) + 2))]) (st := []) C (post := _) (ct_X3_stands hw (nI (kd)) (h (x + 7) ((j) * (4) + 1)) (h (x + 7) ((j) * (4) + 2)) h g) kX7_194 (by decide) (by decide) rfl rfl (Nat.le_of_ble_eq_true rfl) (D (43, .invokestatic 194, 3) (mg 26 rfl)) rfl (fun v4 H2 G3 hv4 => ?_)
        obtain ⟨rfl, rfl, rfl⟩ := hv4
        show X k w _ 46 [some (.ref (wA w (x))), some (.int (nI (kd))), some (.int (c)), some (.int (nI (j))), some (.int (nI ((j) * (4)))), none] [.int (hiC (nI (kd)) (h (x + 7) ((j) * (4) + 1)) (h (x + 7) ((j) * (4) + 2)))] h g
        refine X_istore (ls' := [some (.ref (wA w (x))), some (.int (nI (kd))), some (.int (c)), some (.int (nI (j))), some (.int (nI ((j) * (4)))), some (.int (hiC (nI (kd)) (h (x + 7) ((j) * (4) + 1)) (h (x + 7) ((j) * (4) + 2))))]) C (D (46, .istore 5, 2) (mg 27 rfl)) (Nat.le_of_ble_eq_true rfl) rfl ?_
        refine X_aload_n C 0 (D (48, .aload_n 0, 1) (mg 28 rfl)) rfl rfl ?_
        refine X_get (v := .ref (wA w (x + 1))) C (x) 0 (by omega) hsx rfl rfl (by decide) inX7 fX7_10 rfl (D (49, .getfield 10, 3) (mg 29 rfl)) rfl ?_
        refine X_get (v := .ref (wA w (x + 7))) C (x + 1) 2 (by omega) hT.2.1 rfl rfl (by decide) inX4 fX7_188 rfl (D (52, .getfield 188, 3) (mg 30 rfl)) rfl ?_
        refine X_iload C (D (55, .iload 4, 2) (mg 31 rfl)) rfl ?_
        refine X_iald (v := h (x + 7) ((j) * (4))) C (x + 7) (by omega) hT.2.2.2.2.1 (vp_in_nI (by omega) (by omega)) (D (57, .iaload, 1) (mg 32 rfl)) (by rw [nI_clamp (by omega)]) ?_
        refine X_iload_n C 2 (D (58, .iload_n 2, 1) (mg 33 rfl)) rfl rfl ?_
        refine X_icmp_ne (tgt := 81) C (D (59, .if_icmp .ne 22, 3) (mg 34 rfl)) (by decide) (fun q5 => ?_) (fun q5 => ?_)
        · skip
          refine X_iinc (v := nI (j + 1)) (ls' := [some (.ref (wA w (x))), some (.int (nI (kd))), some (.int (c)), some (.int (nI (j + 1))), some (.int (nI ((j) * (4)))), some (.int (hiC (nI (kd)) (h (x + 7) ((j) * (4) + 1)) (h (x + 7) ((j) * (4) + 2))))]) C (D (81, .iinc 3 1, 3) (mg 46 rfl)) rfl (nI_add (j) 1) rfl ?_
          refine X_goto (tgt := 2) C (D (84, .goto (-82), 3) (mg 47 rfl)) (by decide) ?_
          refine X_los (ls' := [some (.ref (wA w (x))), some (.int (nI (kd))), some (.int (c)), some (.int (nI (j + 1))), none, none]) (by simp [lsub]) ?_
          refine X_eq (ls' := [some (.ref (wA w (x))), some (.int (nI (kd))), some (.int (c)), some (.int (nI (j + 1))), none, none]) (st' := []) (h' := h) (g' := g) rfl rfl rfl rfl ?_
          exact ih2 (j + 1) (by omega) (al_s hc2_1 (by first | exact Or.inl (by assumption) | exact Or.inr (by assumption))) (by omega)
        · skip
          refine X_iload C (D (62, .iload 5, 2) (mg 35 rfl)) rfl ?_
          refine X_aload_n C 0 (D (64, .aload_n 0, 1) (mg 36 rfl)) rfl rfl ?_
          refine X_get (v := .ref (wA w (x + 1))) C (x) 0 (by omega) hsx rfl rfl (by decide) inX7 fX7_10 rfl (D (65, .getfield 10, 3) (mg 37 rfl)) rfl ?_
          refine X_get (v := .ref (wA w (x + 7))) C (x + 1) 2 (by omega) hT.2.1 rfl rfl (by decide) inX4 fX7_188 rfl (D (68, .getfield 188, 3) (mg 38 rfl)) rfl ?_
          refine X_iload C (D (71, .iload 4, 2) (mg 39 rfl)) rfl ?_
          refine X_iconst (v := nI (3)) C (D (73, .iconst 3, 1) (mg 40 rfl)) (by decide) ?_
          refine X_iadd C (D (74, .iadd, 1) (mg 41 rfl)) ?_
          refine X_ti (y := nI ((j) * (4) + 3)) (nI_add ((j) * (4)) (3)) ?_
          refine X_iald (v := h (x + 7) ((j) * (4) + 3)) C (x + 7) (by omega) hT.2.2.2.2.1 (vp_in_nI (by omega) (by omega)) (D (75, .iaload, 1) (mg 42 rfl)) (by rw [nI_clamp (by omega)]) ?_
          refine X_icmp_eq (tgt := 81) C (D (76, .if_icmp .eq 5, 3) (mg 43 rfl)) (by decide) (fun q6 => ?_) (fun q6 => ?_)
          · skip
            refine X_iinc (v := nI (j + 1)) (ls' := [some (.ref (wA w (x))), some (.int (nI (kd))), some (.int (c)), some (.int (nI (j + 1))), some (.int (nI ((j) * (4)))), some (.int (hiC (nI (kd)) (h (x + 7) ((j) * (4) + 1)) (h (x + 7) ((j) * (4) + 2))))]) C (D (81, .iinc 3 1, 3) (mg 46 rfl)) rfl (nI_add (j) 1) rfl ?_
            refine X_goto (tgt := 2) C (D (84, .goto (-82), 3) (mg 47 rfl)) (by decide) ?_
            refine X_los (ls' := [some (.ref (wA w (x))), some (.int (nI (kd))), some (.int (c)), some (.int (nI (j + 1))), none, none]) (by simp [lsub]) ?_
            refine X_eq (ls' := [some (.ref (wA w (x))), some (.int (nI (kd))), some (.int (c)), some (.int (nI (j + 1))), none, none]) (st' := []) (h' := h) (g' := g) rfl rfl rfl rfl ?_
            exact ih2 (j + 1) (by omega) (al_s hc2_1 (by first | exact Or.inl (by assumption) | exact Or.inr (by assumption))) (by omega)
          · skip
            refine X_iconst (v := nI (0)) C (D (79, .iconst 0, 1) (mg 44 rfl)) (by decide) ?_
            exact X_zret C (D (80, .ireturn, 1) (mg 45 rfl)) rfl ⟨pf (fun u_ => (u_ j (by omega)).elim (fun v_ => v_ (by assumption)) (by assumption)), rfl, rfl⟩
  refine X_eq (ls' := [some (.ref (wA w (x))), some (.int (nI (kd))), some (.int (c)), some (.int (nI (0))), none, none]) (st' := []) (h' := h) (g' := g) rfl rfl rfl rfl ?_
  exact lp2 _ (0) (by omega) (fun s hs => absurd hs (by omega)) (Nat.le_refl _)
set_option maxHeartbeats 4000000 in
set_option maxRecDepth 100000 in
theorem cx_X7_fitsMarks {l : Launch} {w : Kw} (hw : wOk w) {x : Nat} (hC : shC w x) {kd : Nat} {nm : Nat} (hnm : nm ≤ 6) (h : xI) (g : xJ) (hma : h (x + 1) 5 = nI nm) : Ct l w yX7_fitsMarks cX7_fitsMarks 4 (some .boolean) 1 25 [.ref (wA w (x)), .int (nI (kd))] h g (px (some (.int (if fK h x kd nm then 1 else 0))) h g) := by
  refine Ct_of (ls := [some (.ref (wA w (x))), some (.int (nI (kd))), none, none]) (by decide) hw (Nat.le_of_ble_eq_true rfl) rfl (fun k hkl C => ?_)
  have C : Cx k w cX7_fitsMarks RX7 4 (some .boolean) 1 25 := C
  have D := dtX7_fitsMarks
  subst hkl
  have hC0 := hC
  obtain ⟨hxn, hsx, hT, hsi, hTa, hTb, hsk, hNs, hY, hX, hsv⟩ := hC
  have hY2 := hY.1
  have hX2 := hX.1
  refine X_iconst (v := nI (0)) C (D (0, .iconst 0, 1) (mg 0 rfl)) (by decide) ?_
  refine X_istore_n (ls' := [some (.ref (wA w (x))), some (.int (nI (kd))), some (.int (nI (0))), none]) C 2 (D (1, .istore_n 2, 1) (mg 1 rfl)) rfl (Nat.le_of_ble_eq_true rfl) rfl ?_
  have lp2 : ∀ (nn2 : Nat) (j : Nat), (j ≤ nm) → (∀ s, s < j → deC (nI kd) (h (x + 8) (s * 3 + 1)) (h (x + 8) (s * 3)) = h (x + 8) (s * 3 + 2)) → 7 - j ≤ nn2 → X k w (Zq k w (px (some (.int (if fK h x kd nm then 1 else 0))) h g)) 2 [some (.ref (wA w (x))), some (.int (nI (kd))), some (.int (nI (j))), none] [] h g := by
    intro nn2
    induction nn2 with
    | zero => intro j hc2_0 hc2_1 hz; exact absurd hz (by omega)
    | succ nn2 ih2 =>
      intro j hc2_0 hc2_1 hz2
      refine X_iload_n C 2 (D (2, .iload_n 2, 1) (mg 2 rfl)) rfl rfl ?_
      refine X_aload_n C 0 (D (3, .aload_n 0, 1) (mg 3 rfl)) rfl rfl ?_
      refine X_get (v := .ref (wA w (x + 1))) C (x) 0 (by omega) hsx rfl rfl (by decide) inX7 fX7_10 rfl (D (4, .getfield 10, 3) (mg 4 rfl)) rfl ?_
      refine X_get (v := .int (h (x + 1) 5)) C (x + 1) 5 (by omega) hT.2.1 rfl rfl (by decide) inX4 fX7_203 rfl (D (7, .getfield 203, 3) (mg 5 rfl)) rfl ?_
      refine X_ti (y := nI (nm)) (hma) ?_
      refine X_icmp_ge (tgt := 63) C (D (10, .if_icmp .ge 53, 3) (mg 6 rfl)) (by decide) (fun q1 => ?_) (fun q1 => ?_)
      · skip
        have q1 : (j) ≥ (nm) := by have z := (nI_leI (a := (nm)) (b := (j)) (by omega) (by omega)).mp q1; omega
        refine X_iconst (v := nI (1)) C (D (63, .iconst 1, 1) (mg 37 rfl)) (by decide) ?_
        exact X_zret C (D (64, .ireturn, 1) (mg 38 rfl)) rfl ⟨pt (fun s hs => hc2_1 s (by omega)), rfl, rfl⟩
      · skip
        have q1 : (j) < (nm) := by have z : ¬ ((nm) ≤ (j)) := fun u => q1 ((nI_leI (a := (nm)) (b := (j)) (by omega) (by omega)).mpr u); omega
        refine X_iload_n C 2 (D (13, .iload_n 2, 1) (mg 7 rfl)) rfl rfl ?_
        refine X_iconst (v := nI (3)) C (D (14, .iconst 3, 1) (mg 8 rfl)) (by decide) ?_
        refine X_imul C (D (15, .imul, 1) (mg 9 rfl)) ?_
        refine X_ti (y := nI ((j) * (3))) (pk_mul (j) (3)) ?_
        refine X_istore_n (ls' := [some (.ref (wA w (x))), some (.int (nI (kd))), some (.int (nI (j))), some (.int (nI ((j) * (3))))]) C 3 (D (16, .istore_n 3, 1) (mg 10 rfl)) rfl (Nat.le_of_ble_eq_true rfl) rfl ?_
        refine X_iload_n C 1 (D (17, .iload_n 1, 1) (mg 11 rfl)) rfl rfl ?_
        refine X_aload_n C 0 (D (18, .aload_n 0, 1) (mg 12 rfl)) rfl rfl ?_
        refine X_get (v := .ref (wA w (x + 1))) C (x) 0 (by omega) hsx rfl rfl (by decide) inX7 fX7_10 rfl (D (19, .getfield 10, 3) (mg 13 rfl)) rfl ?_
        refine X_get (v := .ref (wA w (x + 8))) C (x + 1) 3 (by omega) hT.2.1 rfl rfl (by decide) inX4 fX7_206 rfl (D (22, .getfield 206, 3) (mg 14 rfl)) rfl ?_
        refine X_iload_n C 3 (D (25, .iload_n 3, 1) (mg 15 rfl)) rfl rfl ?_
        refine X_iconst (v := nI (1)) C (D (26, .iconst 1, 1) (mg 16 rfl)) (by decide) ?_
        refine X_iadd C (D (27, .iadd, 1) (mg 17 rfl)) ?_
        refine X_ti (y := nI ((j) * (3) + 1)) (nI_add ((j) * (3)) (1)) ?_
        refine X_iald (v := h (x + 8) ((j) * (3) + 1)) C (x + 8) (by omega) hT.2.2.2.2.2 (vp_in_nI (by omega) (by omega)) (D (28, .iaload, 1) (mg 18 rfl)) (by rw [nI_clamp (by omega)]) ?_
        refine X_aload_n C 0 (D (29, .aload_n 0, 1) (mg 19 rfl)) rfl rfl ?_
        refine X_get (v := .ref (wA w (x + 1))) C (x) 0 (by omega) hsx rfl rfl (by decide) inX7 fX7_10 rfl (D (30, .getfield 10, 3) (mg 20 rfl)) rfl ?_
        refine X_get (v := .ref (wA w (x + 8))) C (x + 1) 3 (by omega) hT.2.1 rfl rfl (by decide) inX4 fX7_206 rfl (D (33, .getfield 206, 3) (mg 21 rfl)) rfl ?_
        refine X_iload_n C 3 (D (36, .iload_n 3, 1) (mg 22 rfl)) rfl rfl ?_
        refine X_iald (v := h (x + 8) ((j) * (3))) C (x + 8) (by omega) hT.2.2.2.2.2 (vp_in_nI (by omega) (by omega)) (D (37, .iaload, 1) (mg 23 rfl)) (by rw [nI_clamp (by omega)]) ?_
        refine X_cS (As := [.int (nI (kd)), .int (h (x + 8) ((j) * (3) + 1)), .int (h (x + 8) ((j) * (3)))]) (st := []) C (post := _) (ct_X0_dragsBy hw (nI (kd)) (h (x + 8) ((j) * (3) + 1)) (h (x + 8) ((j) * (3))) h g) kX7_212 (by decide) (by decide) rfl rfl (Nat.le_of_ble_eq_true rfl) (D (38, .invokestatic 212, 3) (mg 24 rfl)) rfl (fun v4 H2 G3 hv4 => ?_)
        obtain ⟨rfl, rfl, rfl⟩ := hv4
        show X k w _ 41 [some (.ref (wA w (x))), some (.int (nI (kd))), some (.int (nI (j))), some (.int (nI ((j) * (3))))] [.int (deC (nI (kd)) (h (x + 8) ((j) * (3) + 1)) (h (x + 8) ((j) * (3))))] h g
        refine X_aload_n C 0 (D (41, .aload_n 0, 1) (mg 25 rfl)) rfl rfl ?_
        refine X_get (v := .ref (wA w (x + 1))) C (x) 0 (by omega) hsx rfl rfl (by decide) inX7 fX7_10 rfl (D (42, .getfield 10, 3) (mg 26 rfl)) rfl ?_
        refine X_get (v := .ref (wA w (x + 8))) C (x + 1) 3 (by omega) hT.2.1 rfl rfl (by decide) inX4 fX7_206 rfl (D (45, .getfield 206, 3) (mg 27 rfl)) rfl ?_
        refine X_iload_n C 3 (D (48, .iload_n 3, 1) (mg 28 rfl)) rfl rfl ?_
        refine X_iconst (v := nI (2)) C (D (49, .iconst 2, 1) (mg 29 rfl)) (by decide) ?_
        refine X_iadd C (D (50, .iadd, 1) (mg 30 rfl)) ?_
        refine X_ti (y := nI ((j) * (3) + 2)) (nI_add ((j) * (3)) (2)) ?_
        refine X_iald (v := h (x + 8) ((j) * (3) + 2)) C (x + 8) (by omega) hT.2.2.2.2.2 (vp_in_nI (by omega) (by omega)) (D (51, .iaload, 1) (mg 31 rfl)) (by rw [nI_clamp (by omega)]) ?_
        refine X_icmp_eq (tgt := 57) C (D (52, .if_icmp .eq 5, 3) (mg 32 rfl)) (by decide) (fun q5 => ?_) (fun q5 => ?_)
        · skip
          refine X_iinc (v := nI (j + 1)) (ls' := [some (.ref (wA w (x))), some (.int (nI (kd))), some (.int (nI (j + 1))), some (.int (nI ((j) * (3))))]) C (D (57, .iinc 2 1, 3) (mg 35 rfl)) rfl (nI_add (j) 1) rfl ?_
          refine X_goto (tgt := 2) C (D (60, .goto (-58), 3) (mg 36 rfl)) (by decide) ?_
          refine X_los (ls' := [some (.ref (wA w (x))), some (.int (nI (kd))), some (.int (nI (j + 1))), none]) (by simp [lsub]) ?_
          refine X_eq (ls' := [some (.ref (wA w (x))), some (.int (nI (kd))), some (.int (nI (j + 1))), none]) (st' := []) (h' := h) (g' := g) rfl rfl rfl rfl ?_
          exact ih2 (j + 1) (by omega) (al_s hc2_1 (by assumption)) (by omega)
        · skip
          refine X_iconst (v := nI (0)) C (D (55, .iconst 0, 1) (mg 33 rfl)) (by decide) ?_
          exact X_zret C (D (56, .ireturn, 1) (mg 34 rfl)) rfl ⟨pf (fun u_ => absurd (u_ j (by omega)) (by assumption)), rfl, rfl⟩
  refine X_eq (ls' := [some (.ref (wA w (x))), some (.int (nI (kd))), some (.int (nI (0))), none]) (st' := []) (h' := h) (g' := g) rfl rfl rfl rfl ?_
  exact lp2 _ (0) (by omega) (fun s hs => absurd hs (by omega)) (Nat.le_refl _)
set_option maxHeartbeats 4000000 in
set_option maxRecDepth 100000 in
theorem cx_X7_sayingsFor {l : Launch} {w : Kw} (hw : wOk w) {x : Nat} (hC : shC w x) (c : Int32) {ns : Nat} (hns : ns ≤ 5) (h : xI) (g : xJ) (hse : h (x + 1) 4 = nI ns) : Ct l w yX7_sayingsFor cX7_sayingsFor 4 (some .int) 3 71 [.ref (wA w (x)), .int (c)] h g (px (some (.int (dpB (fun kd => fS h x kd c ns) 6))) h g) := by
  refine Ct_of (ls := [some (.ref (wA w (x))), some (.int (c)), none, none]) (by decide) hw (Nat.le_of_ble_eq_true rfl) rfl (fun k hkl C => ?_)
  have C : Cx k w cX7_sayingsFor RX7 4 (some .int) 3 71 := C
  have D := dtX7_sayingsFor
  subst hkl
  have hC0 := hC
  obtain ⟨hxn, hsx, hT, hsi, hTa, hTb, hsk, hNs, hY, hX, hsv⟩ := hC
  have hY2 := hY.1
  have hX2 := hX.1
  refine X_iconst (v := nI (0)) C (D (0, .iconst 0, 1) (mg 0 rfl)) (by decide) ?_
  refine X_istore_n (ls' := [some (.ref (wA w (x))), some (.int (c)), some (.int (nI (0))), none]) C 2 (D (1, .istore_n 2, 1) (mg 1 rfl)) rfl (Nat.le_of_ble_eq_true rfl) rfl ?_
  refine X_iconst (v := nI (0)) C (D (2, .iconst 0, 1) (mg 2 rfl)) (by decide) ?_
  refine X_istore_n (ls' := [some (.ref (wA w (x))), some (.int (c)), some (.int (nI (0))), some (.int (nI (0)))]) C 3 (D (3, .istore_n 3, 1) (mg 3 rfl)) rfl (Nat.le_of_ble_eq_true rfl) rfl ?_
  have lp4 : ∀ (nn4 : Nat) (j : Nat), (j ≤ 6) → 7 - j ≤ nn4 → X k w (Zq k w (px (some (.int (dpB (fun kd => fS h x kd c ns) 6))) h g)) 4 [some (.ref (wA w (x))), some (.int (c)), some (.int (dpB (fun kd => fS h x kd c ns) (j))), some (.int (nI (j)))] [] h g := by
    intro nn4
    induction nn4 with
    | zero => intro j hc4_0 hz; exact absurd hz (by omega)
    | succ nn4 ih4 =>
      intro j hc4_0 hz4
      refine X_iload_n C 3 (D (4, .iload_n 3, 1) (mg 4 rfl)) rfl rfl ?_
      refine X_bipush (v := nI (6)) C (D (5, .bipush 6, 2) (mg 5 rfl)) (by decide) ?_
      refine X_icmp_ge (tgt := 31) C (D (7, .if_icmp .ge 24, 3) (mg 6 rfl)) (by decide) (fun q1 => ?_) (fun q1 => ?_)
      · skip
        have q1 : (j) ≥ (6) := by have z := (nI_leI (a := (6)) (b := (j)) (by omega) (by omega)).mp q1; omega
        refine X_iload_n C 2 (D (31, .iload_n 2, 1) (mg 20 rfl)) rfl rfl ?_
        exact X_iret C (D (32, .ireturn, 1) (mg 21 rfl)) ⟨by rw [show j = 6 by omega], rfl, rfl⟩
      · skip
        have q1 : (j) < (6) := by have z : ¬ ((6) ≤ (j)) := fun u => q1 ((nI_leI (a := (6)) (b := (j)) (by omega) (by omega)).mpr u); omega
        refine X_aload_n C 0 (D (10, .aload_n 0, 1) (mg 7 rfl)) rfl rfl ?_
        refine X_iload_n C 3 (D (11, .iload_n 3, 1) (mg 8 rfl)) rfl rfl ?_
        refine X_iload_n C 1 (D (12, .iload_n 1, 1) (mg 9 rfl)) rfl rfl ?_
        refine X_cV (As := [.int (nI (j)), .int (c)]) (st := []) C (post := _) (x) (by omega) hsx rfl (cx_X7_fitsSeen hw hC0 (kd := j) (c) (ns := ns) hns h g hse) kX7_269 (by decide) (by decide) rfl rfl (Nat.le_of_ble_eq_true rfl) (D (13, .invokevirtual 269, 3) (mg 10 rfl)) rfl (fun v4 H2 G3 hv4 => ?_)
        obtain ⟨rfl, rfl, rfl⟩ := hv4
        show X k w _ 16 [some (.ref (wA w (x))), some (.int (c)), some (.int (dpB (fun kd => fS h x kd c ns) (j))), some (.int (nI (j)))] [.int (if fS h x (j) (c) ns then 1 else 0)] h g
        refine X_if_eq (tgt := 25) C (D (16, .ifCond .eq 9, 3) (mg 11 rfl)) (by decide) (fun q5 => ?_) (fun q5 => ?_)
        · skip
          have q5 : ¬ (fS h x (j) (c) ns) := bz0.mp q5
          refine X_iinc (v := nI (j + 1)) (ls' := [some (.ref (wA w (x))), some (.int (c)), some (.int (dpB (fun kd => fS h x kd c ns) (j))), some (.int (nI (j + 1)))]) C (D (25, .iinc 3 1, 3) (mg 18 rfl)) rfl (nI_add (j) 1) rfl ?_
          refine X_goto (tgt := 4) C (D (28, .goto (-24), 3) (mg 19 rfl)) (by decide) ?_
          refine X_eq (ls' := [some (.ref (wA w (x))), some (.int (c)), some (.int (dpB (fun kd => fS h x kd c ns) (j + 1))), some (.int (nI (j + 1)))]) (st' := []) (h' := h) (g' := g) (by rw [(dpB_n (P := fun kd => fS h x kd c ns) (by assumption))]) rfl rfl rfl ?_
          exact ih4 (j + 1) (by omega) (by omega)
        · skip
          have q5 : (fS h x (j) (c) ns) := bz1.mp q5
          refine X_iload_n C 2 (D (19, .iload_n 2, 1) (mg 12 rfl)) rfl rfl ?_
          refine X_iconst (v := nI (1)) C (D (20, .iconst 1, 1) (mg 13 rfl)) (by decide) ?_
          refine X_iload_n C 3 (D (21, .iload_n 3, 1) (mg 14 rfl)) rfl rfl ?_
          refine X_ishl C (D (22, .ishl, 1) (mg 15 rfl)) ?_
          refine X_ior C (D (23, .ior, 1) (mg 16 rfl)) ?_
          refine X_istore_n (ls' := [some (.ref (wA w (x))), some (.int (c)), some (.int ((dpB (fun kd => fS h x kd c ns) (j)) ||| ((nI (1)) <<< ((nI (j)) &&& 31)))), some (.int (nI (j)))]) C 2 (D (24, .istore_n 2, 1) (mg 17 rfl)) rfl (Nat.le_of_ble_eq_true rfl) rfl ?_
          refine X_iinc (v := nI (j + 1)) (ls' := [some (.ref (wA w (x))), some (.int (c)), some (.int ((dpB (fun kd => fS h x kd c ns) (j)) ||| ((nI (1)) <<< ((nI (j)) &&& 31)))), some (.int (nI (j + 1)))]) C (D (25, .iinc 3 1, 3) (mg 18 rfl)) rfl (nI_add (j) 1) rfl ?_
          refine X_goto (tgt := 4) C (D (28, .goto (-24), 3) (mg 19 rfl)) (by decide) ?_
          refine X_eq (ls' := [some (.ref (wA w (x))), some (.int (c)), some (.int (dpB (fun kd => fS h x kd c ns) (j + 1))), some (.int (nI (j + 1)))]) (st' := []) (h' := h) (g' := g) (by rw [(dpB_t (P := fun kd => fS h x kd c ns) (by assumption))]) rfl rfl rfl ?_
          exact ih4 (j + 1) (by omega) (by omega)
  refine X_eq (ls' := [some (.ref (wA w (x))), some (.int (c)), some (.int (dpB (fun kd => fS h x kd c ns) (0))), some (.int (nI (0)))]) (st' := []) (h' := h) (g' := g) rfl rfl rfl rfl ?_
  exact lp4 _ (0) (by omega) (Nat.le_refl _)
set_option maxHeartbeats 4000000 in
set_option maxRecDepth 100000 in
theorem cx_X7_harrowsThatFit {l : Launch} {w : Kw} (hw : wOk w) {x : Nat} (hC : shC w x) {nm : Nat} (hnm : nm ≤ 6) (h : xI) (g : xJ) (hma : h (x + 1) 5 = nI nm) : Ct l w yX7_harrowsThatFit cX7_harrowsThatFit 3 (some .int) 2 48 [.ref (wA w (x))] h g (px (some (.int (dpB (fun kd => fK h x kd nm) 6))) h g) := by
  refine Ct_of (ls := [some (.ref (wA w (x))), none, none]) (by decide) hw (Nat.le_of_ble_eq_true rfl) rfl (fun k hkl C => ?_)
  have C : Cx k w cX7_harrowsThatFit RX7 3 (some .int) 2 48 := C
  have D := dtX7_harrowsThatFit
  subst hkl
  have hC0 := hC
  obtain ⟨hxn, hsx, hT, hsi, hTa, hTb, hsk, hNs, hY, hX, hsv⟩ := hC
  have hY2 := hY.1
  have hX2 := hX.1
  refine X_iconst (v := nI (0)) C (D (0, .iconst 0, 1) (mg 0 rfl)) (by decide) ?_
  refine X_istore_n (ls' := [some (.ref (wA w (x))), some (.int (nI (0))), none]) C 1 (D (1, .istore_n 1, 1) (mg 1 rfl)) rfl (Nat.le_of_ble_eq_true rfl) rfl ?_
  refine X_iconst (v := nI (0)) C (D (2, .iconst 0, 1) (mg 2 rfl)) (by decide) ?_
  refine X_istore_n (ls' := [some (.ref (wA w (x))), some (.int (nI (0))), some (.int (nI (0)))]) C 2 (D (3, .istore_n 2, 1) (mg 3 rfl)) rfl (Nat.le_of_ble_eq_true rfl) rfl ?_
  have lp4 : ∀ (nn4 : Nat) (j : Nat), (j ≤ 6) → 7 - j ≤ nn4 → X k w (Zq k w (px (some (.int (dpB (fun kd => fK h x kd nm) 6))) h g)) 4 [some (.ref (wA w (x))), some (.int (dpB (fun kd => fK h x kd nm) (j))), some (.int (nI (j)))] [] h g := by
    intro nn4
    induction nn4 with
    | zero => intro j hc4_0 hz; exact absurd hz (by omega)
    | succ nn4 ih4 =>
      intro j hc4_0 hz4
      refine X_iload_n C 2 (D (4, .iload_n 2, 1) (mg 4 rfl)) rfl rfl ?_
      refine X_bipush (v := nI (6)) C (D (5, .bipush 6, 2) (mg 5 rfl)) (by decide) ?_
      refine X_icmp_ge (tgt := 30) C (D (7, .if_icmp .ge 23, 3) (mg 6 rfl)) (by decide) (fun q1 => ?_) (fun q1 => ?_)
      · skip
        have q1 : (j) ≥ (6) := by have z := (nI_leI (a := (6)) (b := (j)) (by omega) (by omega)).mp q1; omega
        refine X_iload_n C 1 (D (30, .iload_n 1, 1) (mg 19 rfl)) rfl rfl ?_
        exact X_iret C (D (31, .ireturn, 1) (mg 20 rfl)) ⟨by rw [show j = 6 by omega], rfl, rfl⟩
      · skip
        have q1 : (j) < (6) := by have z : ¬ ((6) ≤ (j)) := fun u => q1 ((nI_leI (a := (6)) (b := (j)) (by omega) (by omega)).mpr u); omega
        refine X_aload_n C 0 (D (10, .aload_n 0, 1) (mg 7 rfl)) rfl rfl ?_
        refine X_iload_n C 2 (D (11, .iload_n 2, 1) (mg 8 rfl)) rfl rfl ?_
        refine X_cV (As := [.int (nI (j))]) (st := []) C (post := _) (x) (by omega) hsx rfl (cx_X7_fitsMarks hw hC0 (kd := j) (nm := nm) hnm h g hma) kX7_272 (by decide) (by decide) rfl rfl (Nat.le_of_ble_eq_true rfl) (D (12, .invokevirtual 272, 3) (mg 9 rfl)) rfl (fun v4 H2 G3 hv4 => ?_)
        obtain ⟨rfl, rfl, rfl⟩ := hv4
        show X k w _ 15 [some (.ref (wA w (x))), some (.int (dpB (fun kd => fK h x kd nm) (j))), some (.int (nI (j)))] [.int (if fK h x (j) nm then 1 else 0)] h g
        refine X_if_eq (tgt := 24) C (D (15, .ifCond .eq 9, 3) (mg 10 rfl)) (by decide) (fun q5 => ?_) (fun q5 => ?_)
        · skip
          have q5 : ¬ (fK h x (j) nm) := bz0.mp q5
          refine X_iinc (v := nI (j + 1)) (ls' := [some (.ref (wA w (x))), some (.int (dpB (fun kd => fK h x kd nm) (j))), some (.int (nI (j + 1)))]) C (D (24, .iinc 2 1, 3) (mg 17 rfl)) rfl (nI_add (j) 1) rfl ?_
          refine X_goto (tgt := 4) C (D (27, .goto (-23), 3) (mg 18 rfl)) (by decide) ?_
          refine X_eq (ls' := [some (.ref (wA w (x))), some (.int (dpB (fun kd => fK h x kd nm) (j + 1))), some (.int (nI (j + 1)))]) (st' := []) (h' := h) (g' := g) (by rw [(dpB_n (P := fun kd => fK h x kd nm) (by assumption))]) rfl rfl rfl ?_
          exact ih4 (j + 1) (by omega) (by omega)
        · skip
          have q5 : (fK h x (j) nm) := bz1.mp q5
          refine X_iload_n C 1 (D (18, .iload_n 1, 1) (mg 11 rfl)) rfl rfl ?_
          refine X_iconst (v := nI (1)) C (D (19, .iconst 1, 1) (mg 12 rfl)) (by decide) ?_
          refine X_iload_n C 2 (D (20, .iload_n 2, 1) (mg 13 rfl)) rfl rfl ?_
          refine X_ishl C (D (21, .ishl, 1) (mg 14 rfl)) ?_
          refine X_ior C (D (22, .ior, 1) (mg 15 rfl)) ?_
          refine X_istore_n (ls' := [some (.ref (wA w (x))), some (.int ((dpB (fun kd => fK h x kd nm) (j)) ||| ((nI (1)) <<< ((nI (j)) &&& 31)))), some (.int (nI (j)))]) C 1 (D (23, .istore_n 1, 1) (mg 16 rfl)) rfl (Nat.le_of_ble_eq_true rfl) rfl ?_
          refine X_iinc (v := nI (j + 1)) (ls' := [some (.ref (wA w (x))), some (.int ((dpB (fun kd => fK h x kd nm) (j)) ||| ((nI (1)) <<< ((nI (j)) &&& 31)))), some (.int (nI (j + 1)))]) C (D (24, .iinc 2 1, 3) (mg 17 rfl)) rfl (nI_add (j) 1) rfl ?_
          refine X_goto (tgt := 4) C (D (27, .goto (-23), 3) (mg 18 rfl)) (by decide) ?_
          refine X_eq (ls' := [some (.ref (wA w (x))), some (.int (dpB (fun kd => fK h x kd nm) (j + 1))), some (.int (nI (j + 1)))]) (st' := []) (h' := h) (g' := g) (by rw [(dpB_t (P := fun kd => fK h x kd nm) (by assumption))]) rfl rfl rfl ?_
          exact ih4 (j + 1) (by omega) (by omega)
  refine X_eq (ls' := [some (.ref (wA w (x))), some (.int (dpB (fun kd => fK h x kd nm) (0))), some (.int (nI (0)))]) (st' := []) (h' := h) (g' := g) rfl rfl rfl rfl ?_
  exact lp4 _ (0) (by omega) (Nat.le_refl _)
set_option maxHeartbeats 4000000 in
set_option maxRecDepth 100000 in
theorem cx_X7_said {l : Launch} {w : Kw} (hw : wOk w) {x : Nat} (hC : shC w x) (c : Int32) {ns : Nat} (hns : ns ≤ 5) (h : xI) (g : xJ) (hse : h (x + 1) 4 = nI ns) : Ct l w yX7_said cX7_said 2 (some .int) 4 94 [.ref (wA w (x)), .int (c)] h g (pif (0 ≤ c.toInt ∧ c.toInt < 25) (px (some (.int (dpB (fun kd => fS h x kd c ns) 6))) h g) (px (some (.int (-2 : Int32))) (rcH h x 9) g)) := by
  refine Ct_of (ls := [some (.ref (wA w (x))), some (.int (c))]) (by decide) hw (Nat.le_of_ble_eq_true rfl) rfl (fun k hkl C => ?_)
  have C : Cx k w cX7_said RX7 2 (some .int) 4 94 := C
  have D := dtX7_said
  subst hkl
  have hC0 := hC
  obtain ⟨hxn, hsx, hT, hsi, hTa, hTb, hsk, hNs, hY, hX, hsv⟩ := hC
  have hY2 := hY.1
  have hX2 := hX.1
  refine X_iload_n C 1 (D (0, .iload_n 1, 1) (mg 0 rfl)) rfl rfl ?_
  refine X_bipush (v := nI (25)) C (D (1, .bipush 25, 2) (mg 1 rfl)) (by decide) ?_
  refine X_cS (As := [.int (c), .int (nI (25))]) (st := []) C (post := _) (ct_X7_isBelow hw (c) (B := 25) (by decide) h g) kX7_53 (by decide) (by decide) rfl rfl (Nat.le_of_ble_eq_true rfl) (D (3, .invokestatic 53, 3) (mg 2 rfl)) rfl (fun v3 H1 G2 hv3 => ?_)
  obtain ⟨rfl, rfl, rfl⟩ := hv3
  show X k w _ 6 [some (.ref (wA w (x))), some (.int (c))] [.int (if 0 ≤ (c).toInt ∧ (c).toInt < ((25 : Nat) : Int) then 1 else 0)] h g
  refine X_if_ne (tgt := 14) C (D (6, .ifCond .ne 8, 3) (mg 3 rfl)) (by decide) (fun q4 => ?_) (fun q4 => ?_)
  · skip
    have q4 : (0 ≤ (c).toInt ∧ (c).toInt < ((25 : Nat) : Int)) := bz1.mp q4
    refine X_aload_n C 0 (D (14, .aload_n 0, 1) (mg 7 rfl)) rfl rfl ?_
    refine X_iload_n C 1 (D (15, .iload_n 1, 1) (mg 8 rfl)) rfl rfl ?_
    refine X_cV (As := [.int (c)]) (st := []) C (post := _) (x) (by omega) hsx rfl (cx_X7_sayingsFor hw hC0 (c) (ns := ns) hns h g hse) kX7_191 (by decide) (by decide) rfl rfl (Nat.le_of_ble_eq_true rfl) (D (16, .invokevirtual 191, 3) (mg 9 rfl)) rfl (fun v7 H5 G6 hv7 => ?_)
    obtain ⟨rfl, rfl, rfl⟩ := hv7
    show X k w _ 19 [some (.ref (wA w (x))), some (.int (c))] [.int (dpB (fun kd => fS h x kd (c) ns) 6)] h g
    exact X_iret C (D (19, .ireturn, 1) (mg 10 rfl)) ⟨fun _ => ⟨rfl, rfl, rfl⟩, fun z => absurd (by omega) z⟩
  · skip
    have q4 : ¬ (0 ≤ (c).toInt ∧ (c).toInt < ((25 : Nat) : Int)) := bz0.mp q4
    refine X_aload_n C 0 (D (9, .aload_n 0, 1) (mg 4 rfl)) rfl rfl ?_
    refine X_cV (As := []) (st := []) C (post := _) (x) (by omega) hsx rfl (ct_X7_refuseBad hw hC0 h g) kX7_57 (by decide) (by decide) rfl rfl (Nat.le_of_ble_eq_true rfl) (D (10, .invokevirtual 57, 3) (mg 5 rfl)) rfl (fun v10 H8 G9 hv10 => ?_)
    obtain ⟨rfl, rfl, rfl⟩ := hv10
    show X k w _ 13 [some (.ref (wA w (x))), some (.int (c))] [.int ((-2 : Int32))] (rcH h (x) 9) g
    exact X_iret C (D (13, .ireturn, 1) (mg 6 rfl)) ⟨fun z => absurd z (by omega), fun _ => ⟨rfl, rfl, rfl⟩⟩
set_option maxHeartbeats 4000000 in
set_option maxRecDepth 100000 in
theorem cx_X7_kinds {l : Launch} {w : Kw} (hw : wOk w) {x : Nat} (hC : shC w x) {nm : Nat} (hnm : nm ≤ 6) (h : xI) (g : xJ) (hma : h (x + 1) 5 = nI nm) : Ct l w yX7_kinds cX7_kinds 1 (some .int) 3 70 [.ref (wA w (x))] h g (px (some (.int (dpB (fun kd => fK h x kd nm) 6))) h g) := by
  refine Ct_of (ls := [some (.ref (wA w (x)))]) (by decide) hw (Nat.le_of_ble_eq_true rfl) rfl (fun k hkl C => ?_)
  have C : Cx k w cX7_kinds RX7 1 (some .int) 3 70 := C
  have D := dtX7_kinds
  subst hkl
  have hC0 := hC
  obtain ⟨hxn, hsx, hT, hsi, hTa, hTb, hsk, hNs, hY, hX, hsv⟩ := hC
  have hY2 := hY.1
  have hX2 := hX.1
  refine X_aload_n C 0 (D (0, .aload_n 0, 1) (mg 0 rfl)) rfl rfl ?_
  refine X_cV (As := []) (st := []) C (post := _) (x) (by omega) hsx rfl (cx_X7_harrowsThatFit hw hC0 (nm := nm) hnm h g hma) kX7_209 (by decide) (by decide) rfl rfl (Nat.le_of_ble_eq_true rfl) (D (1, .invokevirtual 209, 3) (mg 1 rfl)) rfl (fun v3 H1 G2 hv3 => ?_)
  obtain ⟨rfl, rfl, rfl⟩ := hv3
  show X k w _ 4 [some (.ref (wA w (x)))] [.int (dpB (fun kd => fK h x kd nm) 6)] h g
  exact X_iret C (D (4, .ireturn, 1) (mg 2 rfl)) ⟨rfl, rfl, rfl⟩
set_option maxHeartbeats 4000000 in
set_option maxRecDepth 100000 in
theorem cx_X7_deep {l : Launch} {w : Kw} (hw : wOk w) {x : Nat} (hC : shC w x) (a1 a2 : Int32) (h : xI) (g : xJ)  : Ct l w yX7_deep cX7_deep 5 (some .int) 2 48 [.ref (wA w (x)), .int (a1), .int (a2)] h g (pif ((0 ≤ a1.toInt ∧ a1.toInt < 25) ∧ (0 ≤ a2.toInt ∧ a2.toInt < 10)) (px (some (.int (dpB (fun e => daC (h (x + 2) 2) (nI e) (h (x + 3) a1.toInt.toNat) = a2) 10))) h g) (px (some (.int (-2 : Int32))) (rcH h x 9) g)) := by
  refine Ct_of (ls := [some (.ref (wA w (x))), some (.int (a1)), some (.int (a2)), none, none]) (by decide) hw (Nat.le_of_ble_eq_true rfl) rfl (fun k hkl C => ?_)
  have C : Cx k w cX7_deep RX7 5 (some .int) 2 48 := C
  have D := dtX7_deep
  subst hkl
  generalize hPP : (pif ((0 ≤ a1.toInt ∧ a1.toInt < 25) ∧ (0 ≤ a2.toInt ∧ a2.toInt < 10)) (px (some (.int (dpB (fun e => daC (h (x + 2) 2) (nI e) (h (x + 3) a1.toInt.toNat) = a2) 10))) h g) (px (some (.int (-2 : Int32))) (rcH h x 9) g)) = PP
  have hC0 := hC
  obtain ⟨hxn, hsx, hT, hsi, hTa, hTb, hsk, hNs, hY, hX, hsv⟩ := hC
  have hY2 := hY.1
  have hX2 := hX.1
  refine X_iload_n C 1 (D (0, .iload_n 1, 1) (mg 0 rfl)) rfl rfl ?_
  refine X_bipush (v := nI (25)) C (D (1, .bipush 25, 2) (mg 1 rfl)) (by decide) ?_
  refine X_cS (As := [.int (a1), .int (nI (25))]) (st := []) C (post := _) (ct_X7_isBelow hw (a1) (B := 25) (by decide) h g) kX7_53 (by decide) (by decide) rfl rfl (Nat.le_of_ble_eq_true rfl) (D (3, .invokestatic 53, 3) (mg 2 rfl)) rfl (fun v3 H1 G2 hv3 => ?_)
  obtain ⟨rfl, rfl, rfl⟩ := hv3
  show X k w _ 6 [some (.ref (wA w (x))), some (.int (a1)), some (.int (a2)), none, none] [.int (if 0 ≤ (a1).toInt ∧ (a1).toInt < ((25 : Nat) : Int) then 1 else 0)] h g
  refine X_if_eq (tgt := 18) C (D (6, .ifCond .eq 12, 3) (mg 3 rfl)) (by decide) (fun q4 => ?_) (fun q4 => ?_)
  · skip
    have q4 : ¬ (0 ≤ (a1).toInt ∧ (a1).toInt < ((25 : Nat) : Int)) := bz0.mp q4
    refine X_aload_n C 0 (D (18, .aload_n 0, 1) (mg 8 rfl)) rfl rfl ?_
    refine X_cV (As := []) (st := []) C (post := _) (x) (by omega) hsx rfl (ct_X7_refuseBad hw hC0 h g) kX7_57 (by decide) (by decide) rfl rfl (Nat.le_of_ble_eq_true rfl) (D (19, .invokevirtual 57, 3) (mg 9 rfl)) rfl (fun v7 H5 G6 hv7 => ?_)
    obtain ⟨rfl, rfl, rfl⟩ := hv7
    show X k w _ 22 [some (.ref (wA w (x))), some (.int (a1)), some (.int (a2)), none, none] [.int ((-2 : Int32))] (rcH h (x) 9) g
    exact X_iret C (D (22, .ireturn, 1) (mg 10 rfl)) (by rw [← hPP]; exact ⟨fun z => absurd z (by omega), fun _ => ⟨rfl, rfl, rfl⟩⟩)
  · skip
    have q4 : (0 ≤ (a1).toInt ∧ (a1).toInt < ((25 : Nat) : Int)) := bz1.mp q4
    obtain ⟨n8, hn8, rfl⟩ := nI_i (x := a1) (n := 25) q4.1 (by omega)
    refine X_iload_n C 2 (D (9, .iload_n 2, 1) (mg 4 rfl)) rfl rfl ?_
    refine X_bipush (v := nI (10)) C (D (10, .bipush 10, 2) (mg 5 rfl)) (by decide) ?_
    refine X_cS (As := [.int (a2), .int (nI (10))]) (st := []) C (post := _) (ct_X7_isBelow hw (a2) (B := 10) (by decide) h g) kX7_53 (by decide) (by decide) rfl rfl (Nat.le_of_ble_eq_true rfl) (D (12, .invokestatic 53, 3) (mg 6 rfl)) rfl (fun v11 H9 G10 hv11 => ?_)
    obtain ⟨rfl, rfl, rfl⟩ := hv11
    show X k w _ 15 [some (.ref (wA w (x))), some (.int (nI (n8))), some (.int (a2)), none, none] [.int (if 0 ≤ (a2).toInt ∧ (a2).toInt < ((10 : Nat) : Int) then 1 else 0)] h g
    refine X_if_ne (tgt := 23) C (D (15, .ifCond .ne 8, 3) (mg 7 rfl)) (by decide) (fun q12 => ?_) (fun q12 => ?_)
    · skip
      have q12 : (0 ≤ (a2).toInt ∧ (a2).toInt < ((10 : Nat) : Int)) := bz1.mp q12
      refine X_iconst (v := nI (0)) C (D (23, .iconst 0, 1) (mg 11 rfl)) (by decide) ?_
      refine X_istore_n (ls' := [some (.ref (wA w (x))), some (.int (nI (n8))), some (.int (a2)), some (.int (nI (0))), none]) C 3 (D (24, .istore_n 3, 1) (mg 12 rfl)) rfl (Nat.le_of_ble_eq_true rfl) rfl ?_
      refine X_iconst (v := nI (0)) C (D (25, .iconst 0, 1) (mg 13 rfl)) (by decide) ?_
      refine X_istore (ls' := [some (.ref (wA w (x))), some (.int (nI (n8))), some (.int (a2)), some (.int (nI (0))), some (.int (nI (0)))]) C (D (26, .istore 4, 2) (mg 14 rfl)) (Nat.le_of_ble_eq_true rfl) rfl ?_
      have lp28 : ∀ (nn28 : Nat) (j : Nat), (j ≤ 10) → 11 - j ≤ nn28 → X k w (Zq k w (PP)) 28 [some (.ref (wA w (x))), some (.int (nI (n8))), some (.int (a2)), some (.int (dpB (fun e => daC (h (x + 2) 2) (nI e) (h (x + 3) (n8)) = a2) (j))), some (.int (nI (j)))] [] h g := by
        intro nn28
        induction nn28 with
        | zero => intro j hc28_0 hz; exact absurd hz (by omega)
        | succ nn28 ih28 =>
          intro j hc28_0 hz28
          refine X_iload C (D (28, .iload 4, 2) (mg 15 rfl)) rfl ?_
          refine X_bipush (v := nI (10)) C (D (30, .bipush 10, 2) (mg 16 rfl)) (by decide) ?_
          refine X_icmp_ge (tgt := 79) C (D (32, .if_icmp .ge 47, 3) (mg 17 rfl)) (by decide) (fun q13 => ?_) (fun q13 => ?_)
          · skip
            have q13 : (j) ≥ (10) := by have z := (nI_leI (a := (10)) (b := (j)) (by omega) (by omega)).mp q13; omega
            refine X_iload_n C 3 (D (79, .iload_n 3, 1) (mg 40 rfl)) rfl rfl ?_
            exact X_iret C (D (80, .ireturn, 1) (mg 41 rfl)) (by rw [← hPP]; exact (by rw [show j = 10 by omega]; exact ⟨fun _ => ⟨by rw [nI_toInt (n := n8) (by omega), Int.toNat_natCast], rfl, rfl⟩, fun z => absurd (by omega) z⟩))
          · skip
            have q13 : (j) < (10) := by have z : ¬ ((10) ≤ (j)) := fun u => q13 ((nI_leI (a := (10)) (b := (j)) (by omega) (by omega)).mpr u); omega
            refine X_aload_n C 0 (D (35, .aload_n 0, 1) (mg 18 rfl)) rfl rfl ?_
            refine X_get (v := .ref (wA w (x + 1))) C (x) 0 (by omega) hsx rfl rfl (by decide) inX7 fX7_10 rfl (D (36, .getfield 10, 3) (mg 19 rfl)) rfl ?_
            refine X_get (v := .ref (wA w (x + 2))) C (x + 1) 0 (by omega) hT.2.1 rfl rfl (by decide) inX4 fX7_61 rfl (D (39, .getfield 61, 3) (mg 20 rfl)) rfl ?_
            refine X_get (v := .int (h (x + 2) 2)) C (x + 2) 2 (by omega) hT.2.2.1.2.1 rfl rfl (by decide) inX1 fX7_74 rfl (D (42, .getfield 74, 3) (mg 21 rfl)) rfl ?_
            refine X_iload C (D (45, .iload 4, 2) (mg 22 rfl)) rfl ?_
            refine X_aload_n C 0 (D (47, .aload_n 0, 1) (mg 23 rfl)) rfl rfl ?_
            refine X_get (v := .ref (wA w (x + 1))) C (x) 0 (by omega) hsx rfl rfl (by decide) inX7 fX7_10 rfl (D (48, .getfield 10, 3) (mg 24 rfl)) rfl ?_
            refine X_get (v := .ref (wA w (x + 2))) C (x + 1) 0 (by omega) hT.2.1 rfl rfl (by decide) inX4 fX7_61 rfl (D (51, .getfield 61, 3) (mg 25 rfl)) rfl ?_
            refine X_get (v := .ref (wA w (x + 3))) C (x + 2) 0 (by omega) hT.2.2.1.2.1 rfl rfl (by decide) inX1 fX7_87 rfl (D (54, .getfield 87, 3) (mg 26 rfl)) rfl ?_
            refine X_iload_n C 1 (D (57, .iload_n 1, 1) (mg 27 rfl)) rfl rfl ?_
            refine X_iald (v := h (x + 3) (n8)) C (x + 3) (by omega) hT.2.2.1.2.2.1 (vp_in_nI (by omega) (by omega)) (D (58, .iaload, 1) (mg 28 rfl)) (by rw [nI_clamp (by omega)]) ?_
            refine X_cS (As := [.int (h (x + 2) 2), .int (nI (j)), .int (h (x + 3) (n8))]) (st := []) C (post := _) (ct_X0_depthAfter hw (h (x + 2) 2) (nI (j)) (h (x + 3) (n8)) h g) kX7_217 (by decide) (by decide) rfl rfl (Nat.le_of_ble_eq_true rfl) (D (59, .invokestatic 217, 3) (mg 29 rfl)) rfl (fun v16 H14 G15 hv16 => ?_)
            obtain ⟨rfl, rfl, rfl⟩ := hv16
            show X k w _ 62 [some (.ref (wA w (x))), some (.int (nI (n8))), some (.int (a2)), some (.int (dpB (fun e => daC (h (x + 2) 2) (nI e) (h (x + 3) (n8)) = a2) (j))), some (.int (nI (j)))] [.int (daC (h (x + 2) 2) (nI (j)) (h (x + 3) (n8)))] h g
            refine X_iload_n C 2 (D (62, .iload_n 2, 1) (mg 30 rfl)) rfl rfl ?_
            refine X_icmp_ne (tgt := 73) C (D (63, .if_icmp .ne 10, 3) (mg 31 rfl)) (by decide) (fun q17 => ?_) (fun q17 => ?_)
            · skip
              refine X_iinc (v := nI (j + 1)) (ls' := [some (.ref (wA w (x))), some (.int (nI (n8))), some (.int (a2)), some (.int (dpB (fun e => daC (h (x + 2) 2) (nI e) (h (x + 3) (n8)) = a2) (j))), some (.int (nI (j + 1)))]) C (D (73, .iinc 4 1, 3) (mg 38 rfl)) rfl (nI_add (j) 1) rfl ?_
              refine X_goto (tgt := 28) C (D (76, .goto (-48), 3) (mg 39 rfl)) (by decide) ?_
              refine X_eq (ls' := [some (.ref (wA w (x))), some (.int (nI (n8))), some (.int (a2)), some (.int (dpB (fun e => daC (h (x + 2) 2) (nI e) (h (x + 3) (n8)) = a2) (j + 1))), some (.int (nI (j + 1)))]) (st' := []) (h' := h) (g' := g) (by rw [(dpB_n (P := fun e => daC (h (x + 2) 2) (nI e) (h (x + 3) (n8)) = a2) (by assumption))]) rfl rfl rfl ?_
              exact ih28 (j + 1) (by omega) (by omega)
            · skip
              refine X_iload_n C 3 (D (66, .iload_n 3, 1) (mg 32 rfl)) rfl rfl ?_
              refine X_iconst (v := nI (1)) C (D (67, .iconst 1, 1) (mg 33 rfl)) (by decide) ?_
              refine X_iload C (D (68, .iload 4, 2) (mg 34 rfl)) rfl ?_
              refine X_ishl C (D (70, .ishl, 1) (mg 35 rfl)) ?_
              refine X_ior C (D (71, .ior, 1) (mg 36 rfl)) ?_
              refine X_istore_n (ls' := [some (.ref (wA w (x))), some (.int (nI (n8))), some (.int (a2)), some (.int ((dpB (fun e => daC (h (x + 2) 2) (nI e) (h (x + 3) (n8)) = a2) (j)) ||| ((nI (1)) <<< ((nI (j)) &&& 31)))), some (.int (nI (j)))]) C 3 (D (72, .istore_n 3, 1) (mg 37 rfl)) rfl (Nat.le_of_ble_eq_true rfl) rfl ?_
              refine X_iinc (v := nI (j + 1)) (ls' := [some (.ref (wA w (x))), some (.int (nI (n8))), some (.int (a2)), some (.int ((dpB (fun e => daC (h (x + 2) 2) (nI e) (h (x + 3) (n8)) = a2) (j)) ||| ((nI (1)) <<< ((nI (j)) &&& 31)))), some (.int (nI (j + 1)))]) C (D (73, .iinc 4 1, 3) (mg 38 rfl)) rfl (nI_add (j) 1) rfl ?_
              refine X_goto (tgt := 28) C (D (76, .goto (-48), 3) (mg 39 rfl)) (by decide) ?_
              refine X_eq (ls' := [some (.ref (wA w (x))), some (.int (nI (n8))), some (.int (a2)), some (.int (dpB (fun e => daC (h (x + 2) 2) (nI e) (h (x + 3) (n8)) = a2) (j + 1))), some (.int (nI (j + 1)))]) (st' := []) (h' := h) (g' := g) (by rw [(dpB_t (P := fun e => daC (h (x + 2) 2) (nI e) (h (x + 3) (n8)) = a2) (by assumption))]) rfl rfl rfl ?_
              exact ih28 (j + 1) (by omega) (by omega)
      refine X_eq (ls' := [some (.ref (wA w (x))), some (.int (nI (n8))), some (.int (a2)), some (.int (dpB (fun e => daC (h (x + 2) 2) (nI e) (h (x + 3) (n8)) = a2) (0))), some (.int (nI (0)))]) (st' := []) (h' := h) (g' := g) rfl rfl rfl rfl ?_
      exact lp28 _ (0) (by omega) (Nat.le_refl _)
    · skip
      have q12 : ¬ (0 ≤ (a2).toInt ∧ (a2).toInt < ((10 : Nat) : Int)) := bz0.mp q12
      refine X_aload_n C 0 (D (18, .aload_n 0, 1) (mg 8 rfl)) rfl rfl ?_
      refine X_cV (As := []) (st := []) C (post := _) (x) (by omega) hsx rfl (ct_X7_refuseBad hw hC0 h g) kX7_57 (by decide) (by decide) rfl rfl (Nat.le_of_ble_eq_true rfl) (D (19, .invokevirtual 57, 3) (mg 9 rfl)) rfl (fun v20 H18 G19 hv20 => ?_)
      obtain ⟨rfl, rfl, rfl⟩ := hv20
      show X k w _ 22 [some (.ref (wA w (x))), some (.int (nI (n8))), some (.int (a2)), none, none] [.int ((-2 : Int32))] (rcH h (x) 9) g
      exact X_iret C (D (22, .ireturn, 1) (mg 10 rfl)) (by rw [← hPP]; exact ⟨fun z => absurd z (by omega), fun _ => ⟨rfl, rfl, rfl⟩⟩)
