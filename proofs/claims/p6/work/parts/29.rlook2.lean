/-! THE REFERENCE, 12: sparrow, frost, years, digest, weak -/
theorem nb_01 {b : Int32} (h : b = 0 ∨ b = 1) : narrow .boolean (.int b) = .int b := by
  rcases h with rfl | rfl <;> rfl
theorem lg_nat {a b : Nat} (ha : a < 2 ^ 63) (hb : b < 2 ^ 63) : lg_cmp (lN a) (lN b) = 0 ↔ a = b := by
  have h1 := lgI (lN a) (lN b)
  rw [pk_lT ha, pk_lT hb] at h1
  constructor
  · intro e
    have := h1.1; have h2 := h1.2.1
    rw [e] at this h2
    have e1 : ¬ ((a : Int) < b) := fun z => absurd (this.mpr z) (by decide)
    have e2 : ¬ ((b : Int) < a) := fun z => absurd (h2.mpr z) (by decide)
    omega
  · intro e
    subst e
    unfold lg_cmp
    simp
theorem fr_mul {C k d : Nat} (h : C ≤ 10 ^ k) (hd : d ≤ 10) : C * d ≤ 10 ^ (k + 1) := by
  rw [Nat.pow_succ]; exact Nat.mul_le_mul h hd
def pIl (h : xI) (g : xJ) : Option Value → xI → xJ → Prop := fun v h' g' => (∃ y : Int64, v = some (.long y)) ∧ h = h' ∧ g = g'
set_option maxHeartbeats 4000000 in
set_option maxRecDepth 100000 in
theorem ct_X8_rests {l : Launch} {w : Kw} (hw : wOk w) {m : Nat} (hM : shM w m) {a1 : Nat} (ha1 : a1 < 5) {a2 : Nat} (ha2 : a2 < 5) {a3 : Nat} (ha3 : a3 < 5) (h : xI) (g : xJ)  : Ct l w yX8_rests cX8_rests 6 (some .boolean) 3 69 [.ref (wA w (m)), .int (nI (a1)), .int (nI (a2)), .int (nI (a3))] h g (pI h g) := by
  refine Ct_of (ls := [some (.ref (wA w (m))), some (.int (nI (a1))), some (.int (nI (a2))), some (.int (nI (a3))), none, none]) (by decide) hw (Nat.le_of_ble_eq_true rfl) rfl (fun k hkl C => ?_)
  have C : Cx k w cX8_rests RX8 6 (some .boolean) 3 69 := C
  have D := dtX8_rests
  subst hkl
  have hM0 := hM
  obtain ⟨hm, hsm, hs1, hs2, hs3, hs4, hs5, hs6, hs7, hs8, hs9, hs10, hs11⟩ := hM
  have hM := hM0
  refine X_iconst (v := nI (1)) C (D (0, .iconst 1, 1) (mg 0 rfl)) (by decide) ?_
  refine X_istore (ls' := [some (.ref (wA w (m))), some (.int (nI (a1))), some (.int (nI (a2))), some (.int (nI (a3))), some (.int (nI (1))), none]) C (D (1, .istore 4, 2) (mg 1 rfl)) (Nat.le_of_ble_eq_true rfl) rfl ?_
  refine X_iconst (v := nI (0)) C (D (3, .iconst 0, 1) (mg 2 rfl)) (by decide) ?_
  refine X_istore (ls' := [some (.ref (wA w (m))), some (.int (nI (a1))), some (.int (nI (a2))), some (.int (nI (a3))), some (.int (nI (1))), some (.int (nI (0)))]) C (D (4, .istore 5, 2) (mg 3 rfl)) (Nat.le_of_ble_eq_true rfl) rfl ?_
  have lp6 : ∀ (nn6 : Nat) (j : Nat) (b4 : Int32), (j ≤ 5) → (b4 = 0 ∨ b4 = 1) → 6 - j ≤ nn6 → X k w (Zq k w (pI h g)) 6 [some (.ref (wA w (m))), some (.int (nI (a1))), some (.int (nI (a2))), some (.int (nI (a3))), some (.int (b4)), some (.int (nI (j)))] [] h g := by
    intro nn6
    induction nn6 with
    | zero => intro j b4 hc6_0 hc6_1 hz; exact absurd hz (by omega)
    | succ nn6 ih6 =>
      intro j b4 hc6_0 hc6_1 hz6
      refine X_iload C (D (6, .iload 5, 2) (mg 4 rfl)) rfl ?_
      refine X_iconst (v := nI (5)) C (D (8, .iconst 5, 1) (mg 5 rfl)) (by decide) ?_
      refine X_icmp_ge (tgt := 66) C (D (9, .if_icmp .ge 57, 3) (mg 6 rfl)) (by decide) (fun q1 => ?_) (fun q1 => ?_)
      · skip
        have q1 : (j) ≥ (5) := by have z := (nI_leI (a := (5)) (b := (j)) (by omega) (by omega)).mp q1; omega
        refine X_iload C (D (66, .iload 4, 2) (mg 37 rfl)) rfl ?_
        exact X_zret C (D (68, .ireturn, 1) (mg 38 rfl)) (nb_01 hc6_1) ⟨⟨_, rfl⟩, rfl, rfl⟩
      · skip
        have q1 : (j) < (5) := by have z : ¬ ((5) ≤ (j)) := fun u => q1 ((nI_leI (a := (5)) (b := (j)) (by omega) (by omega)).mpr u); omega
        refine X_iload C (D (12, .iload 4, 2) (mg 7 rfl)) rfl ?_
        refine X_if_eq (tgt := 57) C (D (14, .ifCond .eq 43, 3) (mg 8 rfl)) (by decide) (fun q2 => ?_) (fun q2 => ?_)
        · skip
          refine X_iconst (v := nI (0)) C (D (57, .iconst 0, 1) (mg 33 rfl)) (by decide) ?_
          refine X_istore (ls' := [some (.ref (wA w (m))), some (.int (nI (a1))), some (.int (nI (a2))), some (.int (nI (a3))), some (.int (nI (0))), some (.int (nI (j)))]) C (D (58, .istore 4, 2) (mg 34 rfl)) (Nat.le_of_ble_eq_true rfl) rfl ?_
          refine X_iinc (v := nI (j + 1)) (ls' := [some (.ref (wA w (m))), some (.int (nI (a1))), some (.int (nI (a2))), some (.int (nI (a3))), some (.int (nI (0))), some (.int (nI (j + 1)))]) C (D (60, .iinc 5 1, 3) (mg 35 rfl)) rfl (nI_add (j) 1) rfl ?_
          refine X_goto (tgt := 6) C (D (63, .goto (-57), 3) (mg 36 rfl)) (by decide) ?_
          refine X_eq (ls' := [some (.ref (wA w (m))), some (.int (nI (a1))), some (.int (nI (a2))), some (.int (nI (a3))), some (.int (nI (0))), some (.int (nI (j + 1)))]) (st' := []) (h' := h) (g' := g) rfl rfl rfl rfl ?_
          exact ih6 (j + 1) (nI (0)) (by omega) (by decide) (by omega)
        · skip
          refine X_aload_n C 0 (D (17, .aload_n 0, 1) (mg 9 rfl)) rfl rfl ?_
          refine X_iload_n C 1 (D (18, .iload_n 1, 1) (mg 10 rfl)) rfl rfl ?_
          refine X_iload C (D (19, .iload 5, 2) (mg 11 rfl)) rfl ?_
          refine X_iload_n C 3 (D (21, .iload_n 3, 1) (mg 12 rfl)) rfl rfl ?_
          refine X_cV (As := [.int (nI (a1)), .int (nI (j)), .int (nI (a3))]) (st := []) C (post := _) (m) (by omega) hsm rfl (ct_X8_toCurate hw hM (a := a1) (b := j) (d := a3) (by omega) (by omega) (by omega) h g) kX8_200 (by decide) (by decide) rfl rfl (Nat.le_of_ble_eq_true rfl) (D (22, .invokevirtual 200, 3) (mg 13 rfl)) rfl (fun v5 H3 G4 hv5 => ?_)
          obtain ⟨rfl, rfl, rfl⟩ := hv5
          show X k w _ 25 [some (.ref (wA w (m))), some (.int (nI (a1))), some (.int (nI (a2))), some (.int (nI (a3))), some (.int (b4)), some (.int (nI (j)))] [.int (cuP (h (m + 1) (3 + (5 * (a1) + (j)))) (spP (h (m + 1) (3 + (5 * (a1) + (a3)))) (j) (a3)))] h g
          refine X_aload_n C 0 (D (25, .aload_n 0, 1) (mg 14 rfl)) rfl rfl ?_
          refine X_iload_n C 1 (D (26, .iload_n 1, 1) (mg 15 rfl)) rfl rfl ?_
          refine X_iload_n C 2 (D (27, .iload_n 2, 1) (mg 16 rfl)) rfl rfl ?_
          refine X_iload_n C 3 (D (28, .iload_n 3, 1) (mg 17 rfl)) rfl rfl ?_
          refine X_cV (As := [.int (nI (a1)), .int (nI (a2)), .int (nI (a3))]) (st := [.int (cuP (h (m + 1) (3 + (5 * (a1) + (j)))) (spP (h (m + 1) (3 + (5 * (a1) + (a3)))) (j) (a3)))]) C (post := _) (m) (by omega) hsm rfl (ct_X8_toCurate hw hM (a := a1) (b := a2) (d := a3) (by omega) (by omega) (by omega) h g) kX8_200 (by decide) (by decide) rfl rfl (Nat.le_of_ble_eq_true rfl) (D (29, .invokevirtual 200, 3) (mg 18 rfl)) rfl (fun v8 H6 G7 hv8 => ?_)
          obtain ⟨rfl, rfl, rfl⟩ := hv8
          show X k w _ 32 [some (.ref (wA w (m))), some (.int (nI (a1))), some (.int (nI (a2))), some (.int (nI (a3))), some (.int (b4)), some (.int (nI (j)))] [.int (cuP (h (m + 1) (3 + (5 * (a1) + (a2)))) (spP (h (m + 1) (3 + (5 * (a1) + (a3)))) (a2) (a3))), .int (cuP (h (m + 1) (3 + (5 * (a1) + (j)))) (spP (h (m + 1) (3 + (5 * (a1) + (a3)))) (j) (a3)))] h g
          refine X_icmp_gt (tgt := 57) C (D (32, .if_icmp .gt 25, 3) (mg 19 rfl)) (by decide) (fun q9 => ?_) (fun q9 => ?_)
          · skip
            refine X_iconst (v := nI (0)) C (D (57, .iconst 0, 1) (mg 33 rfl)) (by decide) ?_
            refine X_istore (ls' := [some (.ref (wA w (m))), some (.int (nI (a1))), some (.int (nI (a2))), some (.int (nI (a3))), some (.int (nI (0))), some (.int (nI (j)))]) C (D (58, .istore 4, 2) (mg 34 rfl)) (Nat.le_of_ble_eq_true rfl) rfl ?_
            refine X_iinc (v := nI (j + 1)) (ls' := [some (.ref (wA w (m))), some (.int (nI (a1))), some (.int (nI (a2))), some (.int (nI (a3))), some (.int (nI (0))), some (.int (nI (j + 1)))]) C (D (60, .iinc 5 1, 3) (mg 35 rfl)) rfl (nI_add (j) 1) rfl ?_
            refine X_goto (tgt := 6) C (D (63, .goto (-57), 3) (mg 36 rfl)) (by decide) ?_
            refine X_eq (ls' := [some (.ref (wA w (m))), some (.int (nI (a1))), some (.int (nI (a2))), some (.int (nI (a3))), some (.int (nI (0))), some (.int (nI (j + 1)))]) (st' := []) (h' := h) (g' := g) rfl rfl rfl rfl ?_
            exact ih6 (j + 1) (nI (0)) (by omega) (by decide) (by omega)
          · skip
            refine X_aload_n C 0 (D (35, .aload_n 0, 1) (mg 20 rfl)) rfl rfl ?_
            refine X_iload_n C 1 (D (36, .iload_n 1, 1) (mg 21 rfl)) rfl rfl ?_
            refine X_iload_n C 2 (D (37, .iload_n 2, 1) (mg 22 rfl)) rfl rfl ?_
            refine X_iload C (D (38, .iload 5, 2) (mg 23 rfl)) rfl ?_
            refine X_cV (As := [.int (nI (a1)), .int (nI (a2)), .int (nI (j))]) (st := []) C (post := _) (m) (by omega) hsm rfl (ct_X8_toSparrow hw hM (a := a1) (b := a2) (d := j) (by omega) (by omega) (by omega) h g) kX8_197 (by decide) (by decide) rfl rfl (Nat.le_of_ble_eq_true rfl) (D (40, .invokevirtual 197, 3) (mg 24 rfl)) rfl (fun v12 H10 G11 hv12 => ?_)
            obtain ⟨rfl, rfl, rfl⟩ := hv12
            show X k w _ 43 [some (.ref (wA w (m))), some (.int (nI (a1))), some (.int (nI (a2))), some (.int (nI (a3))), some (.int (b4)), some (.int (nI (j)))] [.int (spP (h (m + 1) (3 + (5 * (a1) + (j)))) (a2) (j))] h g
            refine X_aload_n C 0 (D (43, .aload_n 0, 1) (mg 25 rfl)) rfl rfl ?_
            refine X_iload_n C 1 (D (44, .iload_n 1, 1) (mg 26 rfl)) rfl rfl ?_
            refine X_iload_n C 2 (D (45, .iload_n 2, 1) (mg 27 rfl)) rfl rfl ?_
            refine X_iload_n C 3 (D (46, .iload_n 3, 1) (mg 28 rfl)) rfl rfl ?_
            refine X_cV (As := [.int (nI (a1)), .int (nI (a2)), .int (nI (a3))]) (st := [.int (spP (h (m + 1) (3 + (5 * (a1) + (j)))) (a2) (j))]) C (post := _) (m) (by omega) hsm rfl (ct_X8_toSparrow hw hM (a := a1) (b := a2) (d := a3) (by omega) (by omega) (by omega) h g) kX8_197 (by decide) (by decide) rfl rfl (Nat.le_of_ble_eq_true rfl) (D (47, .invokevirtual 197, 3) (mg 29 rfl)) rfl (fun v15 H13 G14 hv15 => ?_)
            obtain ⟨rfl, rfl, rfl⟩ := hv15
            show X k w _ 50 [some (.ref (wA w (m))), some (.int (nI (a1))), some (.int (nI (a2))), some (.int (nI (a3))), some (.int (b4)), some (.int (nI (j)))] [.int (spP (h (m + 1) (3 + (5 * (a1) + (a3)))) (a2) (a3)), .int (spP (h (m + 1) (3 + (5 * (a1) + (j)))) (a2) (j))] h g
            refine X_icmp_gt (tgt := 57) C (D (50, .if_icmp .gt 7, 3) (mg 30 rfl)) (by decide) (fun q16 => ?_) (fun q16 => ?_)
            · skip
              refine X_iconst (v := nI (0)) C (D (57, .iconst 0, 1) (mg 33 rfl)) (by decide) ?_
              refine X_istore (ls' := [some (.ref (wA w (m))), some (.int (nI (a1))), some (.int (nI (a2))), some (.int (nI (a3))), some (.int (nI (0))), some (.int (nI (j)))]) C (D (58, .istore 4, 2) (mg 34 rfl)) (Nat.le_of_ble_eq_true rfl) rfl ?_
              refine X_iinc (v := nI (j + 1)) (ls' := [some (.ref (wA w (m))), some (.int (nI (a1))), some (.int (nI (a2))), some (.int (nI (a3))), some (.int (nI (0))), some (.int (nI (j + 1)))]) C (D (60, .iinc 5 1, 3) (mg 35 rfl)) rfl (nI_add (j) 1) rfl ?_
              refine X_goto (tgt := 6) C (D (63, .goto (-57), 3) (mg 36 rfl)) (by decide) ?_
              refine X_eq (ls' := [some (.ref (wA w (m))), some (.int (nI (a1))), some (.int (nI (a2))), some (.int (nI (a3))), some (.int (nI (0))), some (.int (nI (j + 1)))]) (st' := []) (h' := h) (g' := g) rfl rfl rfl rfl ?_
              exact ih6 (j + 1) (nI (0)) (by omega) (by decide) (by omega)
            · skip
              refine X_iconst (v := nI (1)) C (D (53, .iconst 1, 1) (mg 31 rfl)) (by decide) ?_
              refine X_goto (tgt := 58) C (D (54, .goto 4, 3) (mg 32 rfl)) (by decide) ?_
              refine X_istore (ls' := [some (.ref (wA w (m))), some (.int (nI (a1))), some (.int (nI (a2))), some (.int (nI (a3))), some (.int (nI (1))), some (.int (nI (j)))]) C (D (58, .istore 4, 2) (mg 34 rfl)) (Nat.le_of_ble_eq_true rfl) rfl ?_
              refine X_iinc (v := nI (j + 1)) (ls' := [some (.ref (wA w (m))), some (.int (nI (a1))), some (.int (nI (a2))), some (.int (nI (a3))), some (.int (nI (1))), some (.int (nI (j + 1)))]) C (D (60, .iinc 5 1, 3) (mg 35 rfl)) rfl (nI_add (j) 1) rfl ?_
              refine X_goto (tgt := 6) C (D (63, .goto (-57), 3) (mg 36 rfl)) (by decide) ?_
              refine X_eq (ls' := [some (.ref (wA w (m))), some (.int (nI (a1))), some (.int (nI (a2))), some (.int (nI (a3))), some (.int (nI (1))), some (.int (nI (j + 1)))]) (st' := []) (h' := h) (g' := g) rfl rfl rfl rfl ?_
              exact ih6 (j + 1) (nI (1)) (by omega) (by decide) (by omega)
  refine X_eq (ls' := [some (.ref (wA w (m))), some (.int (nI (a1))), some (.int (nI (a2))), some (.int (nI (a3))), some (.int (nI (1))), some (.int (nI (0)))]) (st' := []) (h' := h) (g' := g) rfl rfl rfl rfl ?_
  exact lp6 _ (0) (nI (1)) (by omega) (by decide) (Nat.le_refl _)
set_option maxHeartbeats 4000000 in
set_option maxRecDepth 100000 in
theorem ct_X8_sparrow {l : Launch} {w : Kw} (hw : wOk w) {m : Nat} (hM : shM w m) (a1 : Int32) (a2 : Int32) (h : xI) (g : xJ) (hI : mOk h m) : Ct l w yX8_sparrow cX8_sparrow 6 (some .int) 4 94 [.ref (wA w (m)), .int (a1), .int (a2)] h g (pQ (mW m h)) := by
  refine Ct_of (ls := [some (.ref (wA w (m))), some (.int (a1)), some (.int (a2)), none, none, none]) (by decide) hw (Nat.le_of_ble_eq_true rfl) rfl (fun k hkl C => ?_)
  have C : Cx k w cX8_sparrow RX8 6 (some .int) 4 94 := C
  have D := dtX8_sparrow
  subst hkl
  have hM0 := hM
  obtain ⟨hm, hsm, hs1, hs2, hs3, hs4, hs5, hs6, hs7, hs8, hs9, hs10, hs11⟩ := hM
  have hM := hM0
  have hI0 := hI
  obtain ⟨⟨⟨nu, hnu, eu⟩, ⟨c0, hc0, hat⟩, hpl⟩, ⟨⟨ns, hns, hse⟩, ⟨nm, hnm, hma⟩⟩, hK, ⟨nt, hnt, htx⟩⟩ := hI
  have hI := hI0
  refine X_iload_n C 1 (D (0, .iload_n 1, 1) (mg 0 rfl)) rfl rfl ?_
  refine X_i2l C (D (1, .i2l, 1) (mg 1 rfl)) ?_
  refine X_lconst (v := lN 0) C (D (2, .lconst 0, 1) (mg 2 rfl)) (by decide) ?_
  refine X_ldc2 C (D (3, .ldc2_w 60, 3) (mg 3 rfl)) vX8_60 ?_
  refine X_tl (y := lN (4)) rfl ?_
  refine X_cS (As := [.long ((a1).toInt64), .long (lN (0)), .long (lN (4))]) (st := []) C (post := _) (ct_X8_in hw ((a1).toInt64) (lN (0)) (lN (4)) h g) kX8_54 (by decide) (by decide) rfl rfl (Nat.le_of_ble_eq_true rfl) (D (6, .invokestatic 54, 3) (mg 4 rfl)) rfl (fun v3 H1 G2 hv3 => ?_)
  obtain ⟨rfl, rfl, rfl⟩ := hv3
  show X k w _ 9 [some (.ref (wA w (m))), some (.int (a1)), some (.int (a2)), none, none, none] [.int (if (lN (0)).toInt ≤ ((a1).toInt64).toInt ∧ ((a1).toInt64).toInt ≤ (lN (4)).toInt then 1 else 0)] h g
  refine X_if_eq (tgt := 17) C (D (9, .ifCond .eq 8, 3) (mg 5 rfl)) (by decide) (fun q4 => ?_) (fun q4 => ?_)
  · skip
    have q4 : ¬ ((lN (0)).toInt ≤ ((a1).toInt64).toInt ∧ ((a1).toInt64).toInt ≤ (lN (4)).toInt) := bz0.mp q4
    simp only [i6, pk_lT (n := 0) (by omega), pk_lT (n := 4) (by omega)] at q4
    refine X_aload_n C 0 (D (17, .aload_n 0, 1) (mg 9 rfl)) rfl rfl ?_
    refine X_bipush (v := (-10 : Int32)) C (D (18, .bipush (-10), 2) (mg 10 rfl)) (by decide) ?_
    refine X_cV (As := [.int ((-10 : Int32))]) (st := []) C (post := _) (m) (by omega) hsm rfl (ct_X8_bad hw hM ((-10 : Int32)) h g) kX8_75 (by decide) (by decide) rfl rfl (Nat.le_of_ble_eq_true rfl) (D (20, .invokevirtual 75, 3) (mg 11 rfl)) rfl (fun v7 H5 G6 hv7 => ?_)
    obtain ⟨rfl, rfl, rfl⟩ := hv7
    show X k w _ 23 [some (.ref (wA w (m))), some (.int (a1)), some (.int (a2)), none, none, none] [.int ((-10 : Int32))] (rfH h m 0) g
    exact X_iret C (D (23, .ireturn, 1) (mg 12 rfl)) ⟨⟨_, rfl⟩, ⟨fun q i z0 => by have z := z0; unfold SM at z; rw [rfH_ne _ _ _ (by omega)], rU_k (fun i => by rw [rfH_ne _ _ _ (by omega)]) hI.1⟩⟩
  · skip
    have q4 : ((lN (0)).toInt ≤ ((a1).toInt64).toInt ∧ ((a1).toInt64).toInt ≤ (lN (4)).toInt) := bz1.mp q4
    simp only [i6, pk_lT (n := 0) (by omega), pk_lT (n := 4) (by omega)] at q4
    obtain ⟨n8, hn8, rfl⟩ := nI_i (x := a1) (n := 5) (by omega) (by omega)
    refine X_iload_n C 2 (D (12, .iload_n 2, 1) (mg 6 rfl)) rfl rfl ?_
    refine X_iconst (v := (-1 : Int32)) C (D (13, .iconst (-1), 1) (mg 7 rfl)) (by decide) ?_
    refine X_icmp_ge (tgt := 24) C (D (14, .if_icmp .ge 10, 3) (mg 8 rfl)) (by decide) (fun q9 => ?_) (fun q9 => ?_)
    · skip
      refine X_iconst (v := nI (0)) C (D (24, .iconst 0, 1) (mg 13 rfl)) (by decide) ?_
      refine X_istore_n (ls' := [some (.ref (wA w (m))), some (.int (nI (n8))), some (.int (a2)), some (.int (nI (0))), none, none]) C 3 (D (25, .istore_n 3, 1) (mg 14 rfl)) rfl (Nat.le_of_ble_eq_true rfl) rfl ?_
      refine X_iconst (v := nI (0)) C (D (26, .iconst 0, 1) (mg 15 rfl)) (by decide) ?_
      refine X_istore (ls' := [some (.ref (wA w (m))), some (.int (nI (n8))), some (.int (a2)), some (.int (nI (0))), some (.int (nI (0))), none]) C (D (27, .istore 4, 2) (mg 16 rfl)) (Nat.le_of_ble_eq_true rfl) rfl ?_
      have lp29 : ∀ (nn29 : Nat) (j : Nat) (b3 : Int32), (j ≤ 5) → 6 - j ≤ nn29 → X k w (Zq k w (pQ (mW m h))) 29 [some (.ref (wA w (m))), some (.int (nI (n8))), some (.int (a2)), some (.int (b3)), some (.int (nI (j))), none] [] h g := by
        intro nn29
        induction nn29 with
        | zero => intro j b3 hc29_0 hz; exact absurd hz (by omega)
        | succ nn29 ih29 =>
          intro j b3 hc29_0 hz29
          refine X_iload C (D (29, .iload 4, 2) (mg 17 rfl)) rfl ?_
          refine X_iconst (v := nI (5)) C (D (31, .iconst 5, 1) (mg 18 rfl)) (by decide) ?_
          refine X_icmp_ge (tgt := 85) C (D (32, .if_icmp .ge 53, 3) (mg 19 rfl)) (by decide) (fun q10 => ?_) (fun q10 => ?_)
          · skip
            have q10 : (j) ≥ (5) := by have z := (nI_leI (a := (5)) (b := (j)) (by omega) (by omega)).mp q10; omega
            refine X_iload_n C 2 (D (85, .iload_n 2, 1) (mg 45 rfl)) rfl rfl ?_
            refine X_iconst (v := (-1 : Int32)) C (D (86, .iconst (-1), 1) (mg 46 rfl)) (by decide) ?_
            refine X_icmp_ne (tgt := 94) C (D (87, .if_icmp .ne 7, 3) (mg 47 rfl)) (by decide) (fun q11 => ?_) (fun q11 => ?_)
            · skip
              refine X_bipush (v := (-5 : Int32)) C (D (94, .bipush (-5), 2) (mg 50 rfl)) (by decide) ?_
              exact X_iret C (D (96, .ireturn, 1) (mg 51 rfl)) ⟨⟨_, rfl⟩, (mW_r hI)⟩
            · skip
              refine X_iload_n C 3 (D (90, .iload_n 3, 1) (mg 48 rfl)) rfl rfl ?_
              refine X_goto (tgt := 96) C (D (91, .goto 5, 3) (mg 49 rfl)) (by decide) ?_
              exact X_iret C (D (96, .ireturn, 1) (mg 51 rfl)) ⟨⟨_, rfl⟩, (mW_r hI)⟩
          · skip
            have q10 : (j) < (5) := by have z : ¬ ((5) ≤ (j)) := fun u => q10 ((nI_leI (a := (5)) (b := (j)) (by omega) (by omega)).mpr u); omega
            refine X_iconst (v := nI (0)) C (D (35, .iconst 0, 1) (mg 20 rfl)) (by decide) ?_
            refine X_istore (ls' := [some (.ref (wA w (m))), some (.int (nI (n8))), some (.int (a2)), some (.int (b3)), some (.int (nI (j))), some (.int (nI (0)))]) C (D (36, .istore 5, 2) (mg 21 rfl)) (Nat.le_of_ble_eq_true rfl) rfl ?_
            have lp38 : ∀ (nn38 : Nat) (i5 : Nat) (b3 : Int32), (i5 ≤ 5) → 6 - i5 ≤ nn38 → X k w (Zq k w (pQ (mW m h))) 38 [some (.ref (wA w (m))), some (.int (nI (n8))), some (.int (a2)), some (.int (b3)), some (.int (nI (j))), some (.int (nI (i5)))] [] h g := by
              intro nn38
              induction nn38 with
              | zero => intro i5 b3 hc38_0 hz; exact absurd hz (by omega)
              | succ nn38 ih38 =>
                intro i5 b3 hc38_0 hz38
                refine X_iload C (D (38, .iload 5, 2) (mg 22 rfl)) rfl ?_
                refine X_iconst (v := nI (5)) C (D (40, .iconst 5, 1) (mg 23 rfl)) (by decide) ?_
                refine X_icmp_ge (tgt := 79) C (D (41, .if_icmp .ge 38, 3) (mg 24 rfl)) (by decide) (fun q12 => ?_) (fun q12 => ?_)
                · skip
                  have q12 : (i5) ≥ (5) := by have z := (nI_leI (a := (5)) (b := (i5)) (by omega) (by omega)).mp q12; omega
                  refine X_iinc (v := nI (j + 1)) (ls' := [some (.ref (wA w (m))), some (.int (nI (n8))), some (.int (a2)), some (.int (b3)), some (.int (nI (j + 1))), some (.int (nI (i5)))]) C (D (79, .iinc 4 1, 3) (mg 43 rfl)) rfl (nI_add (j) 1) rfl ?_
                  refine X_goto (tgt := 29) C (D (82, .goto (-53), 3) (mg 44 rfl)) (by decide) ?_
                  refine X_los (ls' := [some (.ref (wA w (m))), some (.int (nI (n8))), some (.int (a2)), some (.int (b3)), some (.int (nI (j + 1))), none]) (by simp [lsub]) ?_
                  refine X_eq (ls' := [some (.ref (wA w (m))), some (.int (nI (n8))), some (.int (a2)), some (.int (b3)), some (.int (nI (j + 1))), none]) (st' := []) (h' := h) (g' := g) rfl rfl rfl rfl ?_
                  exact ih29 (j + 1) (b3) (by omega) (by omega)
                · skip
                  have q12 : (i5) < (5) := by have z : ¬ ((5) ≤ (i5)) := fun u => q12 ((nI_leI (a := (5)) (b := (i5)) (by omega) (by omega)).mpr u); omega
                  refine X_aload_n C 0 (D (44, .aload_n 0, 1) (mg 25 rfl)) rfl rfl ?_
                  refine X_iload_n C 1 (D (45, .iload_n 1, 1) (mg 26 rfl)) rfl rfl ?_
                  refine X_iload C (D (46, .iload 4, 2) (mg 27 rfl)) rfl ?_
                  refine X_iload C (D (48, .iload 5, 2) (mg 28 rfl)) rfl ?_
                  refine X_cV (As := [.int (nI (n8)), .int (nI (j)), .int (nI (i5))]) (st := []) C (post := _) (m) (by omega) hsm rfl (ct_X8_rests hw hM (a1 := n8) (by omega) (a2 := j) (by omega) (a3 := i5) (by omega) h g) kX8_203 (by decide) (by decide) rfl rfl (Nat.le_of_ble_eq_true rfl) (D (50, .invokevirtual 203, 3) (mg 29 rfl)) rfl (fun v15 H13 G14 hv15 => ?_)
                  obtain ⟨⟨y16, rfl⟩, rfl, rfl⟩ := hv15
                  show X k w _ 53 [some (.ref (wA w (m))), some (.int (nI (n8))), some (.int (a2)), some (.int (b3)), some (.int (nI (j))), some (.int (nI (i5)))] [.int (y16)] h g
                  refine X_if_eq (tgt := 73) C (D (53, .ifCond .eq 20, 3) (mg 30 rfl)) (by decide) (fun q17 => ?_) (fun q17 => ?_)
                  · skip
                    refine X_iinc (v := nI (i5 + 1)) (ls' := [some (.ref (wA w (m))), some (.int (nI (n8))), some (.int (a2)), some (.int (b3)), some (.int (nI (j))), some (.int (nI (i5 + 1)))]) C (D (73, .iinc 5 1, 3) (mg 41 rfl)) rfl (nI_add (i5) 1) rfl ?_
                    refine X_goto (tgt := 38) C (D (76, .goto (-38), 3) (mg 42 rfl)) (by decide) ?_
                    refine X_eq (ls' := [some (.ref (wA w (m))), some (.int (nI (n8))), some (.int (a2)), some (.int (b3)), some (.int (nI (j))), some (.int (nI (i5 + 1)))]) (st' := []) (h' := h) (g' := g) rfl rfl rfl rfl ?_
                    exact ih38 (i5 + 1) (b3) (by omega) (by omega)
                  · skip
                    refine X_iload_n C 3 (D (56, .iload_n 3, 1) (mg 31 rfl)) rfl rfl ?_
                    refine X_iload_n C 2 (D (57, .iload_n 2, 1) (mg 32 rfl)) rfl rfl ?_
                    refine X_icmp_ne (tgt := 70) C (D (58, .if_icmp .ne 12, 3) (mg 33 rfl)) (by decide) (fun q18 => ?_) (fun q18 => ?_)
                    · skip
                      refine X_iinc (v := b3 + 1) (ls' := [some (.ref (wA w (m))), some (.int (nI (n8))), some (.int (a2)), some (.int (b3 + 1)), some (.int (nI (j))), some (.int (nI (i5)))]) C (D (70, .iinc 3 1, 3) (mg 40 rfl)) rfl rfl rfl ?_
                      refine X_iinc (v := nI (i5 + 1)) (ls' := [some (.ref (wA w (m))), some (.int (nI (n8))), some (.int (a2)), some (.int (b3 + 1)), some (.int (nI (j))), some (.int (nI (i5 + 1)))]) C (D (73, .iinc 5 1, 3) (mg 41 rfl)) rfl (nI_add (i5) 1) rfl ?_
                      refine X_goto (tgt := 38) C (D (76, .goto (-38), 3) (mg 42 rfl)) (by decide) ?_
                      refine X_eq (ls' := [some (.ref (wA w (m))), some (.int (nI (n8))), some (.int (a2)), some (.int (b3 + 1)), some (.int (nI (j))), some (.int (nI (i5 + 1)))]) (st' := []) (h' := h) (g' := g) rfl rfl rfl rfl ?_
                      exact ih38 (i5 + 1) (b3 + 1) (by omega) (by omega)
                    · skip
                      refine X_bipush (v := nI (10)) C (D (61, .bipush 10, 2) (mg 34 rfl)) (by decide) ?_
                      refine X_iload C (D (63, .iload 4, 2) (mg 35 rfl)) rfl ?_
                      refine X_imul C (D (65, .imul, 1) (mg 36 rfl)) ?_
                      refine X_ti (y := nI ((10) * (j))) (pk_mul (10) (j)) ?_
                      refine X_iload C (D (66, .iload 5, 2) (mg 37 rfl)) rfl ?_
                      refine X_iadd C (D (68, .iadd, 1) (mg 38 rfl)) ?_
                      refine X_ti (y := nI ((10) * (j) + i5)) (nI_add ((10) * (j)) (i5)) ?_
                      exact X_iret C (D (69, .ireturn, 1) (mg 39 rfl)) ⟨⟨_, rfl⟩, (mW_r hI)⟩
            refine X_eq (ls' := [some (.ref (wA w (m))), some (.int (nI (n8))), some (.int (a2)), some (.int (b3)), some (.int (nI (j))), some (.int (nI (0)))]) (st' := []) (h' := h) (g' := g) rfl rfl rfl rfl ?_
            exact lp38 _ (0) (b3) (by omega) (Nat.le_refl _)
      refine X_eq (ls' := [some (.ref (wA w (m))), some (.int (nI (n8))), some (.int (a2)), some (.int (nI (0))), some (.int (nI (0))), none]) (st' := []) (h' := h) (g' := g) rfl rfl rfl rfl ?_
      exact lp29 _ (0) (nI (0)) (by omega) (Nat.le_refl _)
    · skip
      refine X_aload_n C 0 (D (17, .aload_n 0, 1) (mg 9 rfl)) rfl rfl ?_
      refine X_bipush (v := (-10 : Int32)) C (D (18, .bipush (-10), 2) (mg 10 rfl)) (by decide) ?_
      refine X_cV (As := [.int ((-10 : Int32))]) (st := []) C (post := _) (m) (by omega) hsm rfl (ct_X8_bad hw hM ((-10 : Int32)) h g) kX8_75 (by decide) (by decide) rfl rfl (Nat.le_of_ble_eq_true rfl) (D (20, .invokevirtual 75, 3) (mg 11 rfl)) rfl (fun v21 H19 G20 hv21 => ?_)
      obtain ⟨rfl, rfl, rfl⟩ := hv21
      show X k w _ 23 [some (.ref (wA w (m))), some (.int (nI (n8))), some (.int (a2)), none, none, none] [.int ((-10 : Int32))] (rfH h m 0) g
      exact X_iret C (D (23, .ireturn, 1) (mg 12 rfl)) ⟨⟨_, rfl⟩, ⟨fun q i z0 => by have z := z0; unfold SM at z; rw [rfH_ne _ _ _ (by omega)], rU_k (fun i => by rw [rfH_ne _ _ _ (by omega)]) hI.1⟩⟩
set_option maxHeartbeats 4000000 in
set_option maxRecDepth 100000 in
theorem ct_X8_fraction {l : Launch} {w : Kw} (hw : wOk w) {m : Nat} (hM : shM w m) {A B : Nat} (hA : A < 2147483648) (hB : 0 < B ∧ B < 2147483648) (h : xI) (g : xJ)  : Ct l w yX8_fraction cX8_fraction 11 none 0 0 [.ref (wA w (m)), .long (lN (A)), .long (lN (B))] h g (pQv (fun h' => h = h')) := by
  refine Ct_of (ls := [some (.ref (wA w (m))), some (.long (lN (A))), none, some (.long (lN (B))), none, none, none, none, none, none, none]) (by decide) hw (Nat.le_of_ble_eq_true rfl) rfl (fun k hkl C => ?_)
  have C : Cx k w cX8_fraction RX8 11 none 0 0 := C
  have D := dtX8_fraction
  subst hkl
  have hM0 := hM
  obtain ⟨hm, hsm, hs1, hs2, hs3, hs4, hs5, hs6, hs7, hs8, hs9, hs10, hs11⟩ := hM
  have hM := hM0
  refine X_lload_n C 1 (D (0, .lload_n 1, 1) (mg 0 rfl)) rfl rfl ?_
  refine X_lstore (ls' := [some (.ref (wA w (m))), some (.long (lN (A))), none, some (.long (lN (B))), none, some (.long (lN (A))), none, none, none, none, none]) C (D (1, .lstore 5, 2) (mg 1 rfl)) (Nat.le_of_ble_eq_true rfl) rfl ?_
  refine X_lload_n C 3 (D (3, .lload_n 3, 1) (mg 2 rfl)) rfl rfl ?_
  refine X_lstore (ls' := [some (.ref (wA w (m))), some (.long (lN (A))), none, some (.long (lN (B))), none, some (.long (lN (A))), none, some (.long (lN (B))), none, none, none]) C (D (4, .lstore 7, 2) (mg 3 rfl)) (Nat.le_of_ble_eq_true rfl) rfl ?_
  have lp6 : ∀ (nn6 : Nat) (a5 : Nat) (b7 : Nat), (a5 < 2147483648) → (b7 < 2147483648) → (0 < a5 ∨ 0 < b7) → b7 + 1 ≤ nn6 → X k w (Zq k w (pQv (fun h' => h = h'))) 6 [some (.ref (wA w (m))), some (.long (lN (A))), none, some (.long (lN (B))), none, some (.long (lN (a5))), none, some (.long (lN (b7))), none, none, none] [] h g := by
    intro nn6
    induction nn6 with
    | zero => intro a5 b7 hc6_0 hc6_1 hc6_2 hz; exact absurd hz (by omega)
    | succ nn6 ih6 =>
      intro a5 b7 hc6_0 hc6_1 hc6_2 hz6
      refine X_lload C (D (6, .lload 7, 2) (mg 4 rfl)) rfl ?_
      refine X_lconst (v := lN 0) C (D (8, .lconst 0, 1) (mg 5 rfl)) (by decide) ?_
      refine X_lcmp C (D (9, .lcmp, 1) (mg 6 rfl)) ?_
      refine X_if_eq (tgt := 31) C (D (10, .ifCond .eq 21, 3) (mg 7 rfl)) (by decide) (fun q1 => ?_) (fun q1 => ?_)
      · skip
        have q1 : (b7) = (0) := (lg_nat (by omega) (by omega)).mp q1
        refine X_aload_n C 0 (D (31, .aload_n 0, 1) (mg 17 rfl)) rfl rfl ?_
        refine X_lload_n C 1 (D (32, .lload_n 1, 1) (mg 18 rfl)) rfl rfl ?_
        refine X_lload C (D (33, .lload 5, 2) (mg 19 rfl)) rfl ?_
        refine X_ldiv C (D (35, .ldiv, 1) (mg 20 rfl)) (fun z => by have := (pk_lEQ (a := a5) (b := 0) (by omega) (by omega)).mp z; omega) ?_
        refine X_tl (y := lN ((A) / (a5))) (pk_lDiv (by omega) (by omega) (by omega)) ?_
        refine X_putJ C (m) 4 tyX8 tyX8_ok nmX8 (by omega) hsm rfl rfl (by decide) inX8 fX8_207 rfl rfl (by decide +kernel) (D (36, .putfield 207, 3) (mg 21 rfl)) ?_
        refine X_aload_n C 0 (D (39, .aload_n 0, 1) (mg 22 rfl)) rfl rfl ?_
        refine X_lload_n C 3 (D (40, .lload_n 3, 1) (mg 23 rfl)) rfl rfl ?_
        refine X_lload C (D (41, .lload 5, 2) (mg 24 rfl)) rfl ?_
        refine X_ldiv C (D (43, .ldiv, 1) (mg 25 rfl)) (fun z => by have := (pk_lEQ (a := a5) (b := 0) (by omega) (by omega)).mp z; omega) ?_
        refine X_tl (y := lN ((B) / (a5))) (pk_lDiv (by omega) (by omega) (by omega)) ?_
        refine X_putJ C (m) 5 tyX8 tyX8_ok nmX8 (by omega) hsm rfl rfl (by decide) inX8 fX8_23 rfl rfl (by decide +kernel) (D (44, .putfield 23, 3) (mg 26 rfl)) ?_
        exact X_vret C (D (47, .return_, 1) (mg 27 rfl)) ⟨rfl, rfl⟩
      · skip
        have q1 : ¬ (b7) = (0) := fun z => q1 ((lg_nat (by omega) (by omega)).mpr z)
        refine X_lload C (D (13, .lload 5, 2) (mg 8 rfl)) rfl ?_
        have hml := Nat.mod_lt a5 (show b7 > 0 by omega)
        refine X_lload C (D (15, .lload 7, 2) (mg 9 rfl)) rfl ?_
        refine X_lrem C (D (17, .lrem, 1) (mg 10 rfl)) (fun z => by have := (pk_lEQ (a := b7) (b := 0) (by omega) (by omega)).mp z; omega) ?_
        refine X_tl (y := lN ((a5) % (b7))) (pk_lRem (by omega) (by omega) (by omega)) ?_
        refine X_lstore (ls' := [some (.ref (wA w (m))), some (.long (lN (A))), none, some (.long (lN (B))), none, some (.long (lN (a5))), none, some (.long (lN (b7))), none, some (.long (lN ((a5) % (b7)))), none]) C (D (18, .lstore 9, 2) (mg 11 rfl)) (Nat.le_of_ble_eq_true rfl) rfl ?_
        refine X_lload C (D (20, .lload 7, 2) (mg 12 rfl)) rfl ?_
        refine X_lstore (ls' := [some (.ref (wA w (m))), some (.long (lN (A))), none, some (.long (lN (B))), none, some (.long (lN (b7))), none, some (.long (lN (b7))), none, some (.long (lN ((a5) % (b7)))), none]) C (D (22, .lstore 5, 2) (mg 13 rfl)) (Nat.le_of_ble_eq_true rfl) rfl ?_
        refine X_lload C (D (24, .lload 9, 2) (mg 14 rfl)) rfl ?_
        refine X_lstore (ls' := [some (.ref (wA w (m))), some (.long (lN (A))), none, some (.long (lN (B))), none, some (.long (lN (b7))), none, some (.long (lN ((a5) % (b7)))), none, some (.long (lN ((a5) % (b7)))), none]) C (D (26, .lstore 7, 2) (mg 15 rfl)) (Nat.le_of_ble_eq_true rfl) rfl ?_
        refine X_goto (tgt := 6) C (D (28, .goto (-22), 3) (mg 16 rfl)) (by decide) ?_
        refine X_los (ls' := [some (.ref (wA w (m))), some (.long (lN (A))), none, some (.long (lN (B))), none, some (.long (lN (b7))), none, some (.long (lN ((a5) % (b7)))), none, none, none]) (by simp [lsub]) ?_
        refine X_eq (ls' := [some (.ref (wA w (m))), some (.long (lN (A))), none, some (.long (lN (B))), none, some (.long (lN (b7))), none, some (.long (lN ((a5) % (b7)))), none, none, none]) (st' := []) (h' := h) (g' := g) rfl rfl rfl rfl ?_
        exact ih6 (b7) ((a5) % (b7)) (by omega) (by omega) (by omega) (by omega)
  refine X_eq (ls' := [some (.ref (wA w (m))), some (.long (lN (A))), none, some (.long (lN (B))), none, some (.long (lN (A))), none, some (.long (lN (B))), none, none, none]) (st' := []) (h' := h) (g' := g) rfl rfl rfl rfl ?_
  exact lp6 _ (A) (B) (by omega) (by omega) (by omega) (Nat.le_refl _)
set_option maxHeartbeats 4000000 in
set_option maxRecDepth 100000 in
theorem ct_X8_frost {l : Launch} {w : Kw} (hw : wOk w) {m : Nat} (hM : shM w m) (a1 : Int32) (a2 : Int32) (h : xI) (g : xJ) (hI : mOk h m) : Ct l w yX8_frost cX8_frost 10 (some .int) 3 69 [.ref (wA w (m)), .int (a1), .int (a2)] h g (pQa (frP a1 a2) (mW m h)) := by
  refine Ct_of (ls := [some (.ref (wA w (m))), some (.int (a1)), some (.int (a2)), none, none, none, none, none, none, none]) (by decide) hw (Nat.le_of_ble_eq_true rfl) rfl (fun k hkl C => ?_)
  have C : Cx k w cX8_frost RX8 10 (some .int) 3 69 := C
  have D := dtX8_frost
  subst hkl
  generalize hPP : (pQa (frP a1 a2) (mW m h)) = PP
  have hM0 := hM
  obtain ⟨hm, hsm, hs1, hs2, hs3, hs4, hs5, hs6, hs7, hs8, hs9, hs10, hs11⟩ := hM
  have hM := hM0
  have hI0 := hI
  obtain ⟨⟨⟨nu, hnu, eu⟩, ⟨c0, hc0, hat⟩, hpl⟩, ⟨⟨ns, hns, hse⟩, ⟨nm, hnm, hma⟩⟩, hK, ⟨nt, hnt, htx⟩⟩ := hI
  have hI := hI0
  refine X_iload_n C 1 (D (0, .iload_n 1, 1) (mg 0 rfl)) rfl rfl ?_
  refine X_cS (As := [.int (a1)]) (st := []) C (post := _) (ct_X8_isCell hw (a1) h g) kX8_72 (by decide) (by decide) rfl rfl (Nat.le_of_ble_eq_true rfl) (D (1, .invokestatic 72, 3) (mg 1 rfl)) rfl (fun v3 H1 G2 hv3 => ?_)
  obtain ⟨rfl, rfl, rfl⟩ := hv3
  show X k w _ 4 [some (.ref (wA w (m))), some (.int (a1)), some (.int (a2)), none, none, none, none, none, none, none] [.int (if 0 ≤ (a1).toInt ∧ (a1).toInt < 25 then 1 else 0)] h g
  refine X_if_eq (tgt := 19) C (D (4, .ifCond .eq 15, 3) (mg 2 rfl)) (by decide) (fun q4 => ?_) (fun q4 => ?_)
  · skip
    have q4 : ¬ (0 ≤ (a1).toInt ∧ (a1).toInt < 25) := bz0.mp q4
    refine X_aload_n C 0 (D (19, .aload_n 0, 1) (mg 9 rfl)) rfl rfl ?_
    refine X_bipush (v := (-2 : Int32)) C (D (20, .bipush (-2), 2) (mg 10 rfl)) (by decide) ?_
    refine X_cV (As := [.int ((-2 : Int32))]) (st := []) C (post := _) (m) (by omega) hsm rfl (ct_X8_bad hw hM ((-2 : Int32)) h g) kX8_75 (by decide) (by decide) rfl rfl (Nat.le_of_ble_eq_true rfl) (D (22, .invokevirtual 75, 3) (mg 11 rfl)) rfl (fun v7 H5 G6 hv7 => ?_)
    obtain ⟨rfl, rfl, rfl⟩ := hv7
    show X k w _ 25 [some (.ref (wA w (m))), some (.int (a1)), some (.int (a2)), none, none, none, none, none, none, none] [.int ((-2 : Int32))] (rfH h m 0) g
    exact X_iret C (D (25, .ireturn, 1) (mg 12 rfl)) (by rw [← hPP]; exact ⟨Or.inr ⟨(by unfold frP; omega), rfl⟩, ⟨fun q i z0 => by have z := z0; unfold SM at z; rw [rfH_ne _ _ _ (by omega)], rU_k (fun i => by rw [rfH_ne _ _ _ (by omega)]) hI.1⟩⟩)
  · skip
    have q4 : (0 ≤ (a1).toInt ∧ (a1).toInt < 25) := bz1.mp q4
    obtain ⟨n8, hn8, rfl⟩ := nI_i (x := a1) (n := 25) q4.1 (by omega)
    refine X_iload_n C 2 (D (7, .iload_n 2, 1) (mg 3 rfl)) rfl rfl ?_
    refine X_i2l C (D (8, .i2l, 1) (mg 4 rfl)) ?_
    refine X_lconst (v := lN 0) C (D (9, .lconst 0, 1) (mg 5 rfl)) (by decide) ?_
    refine X_ldc2 C (D (10, .ldc2_w 210, 3) (mg 6 rfl)) vX8_210 ?_
    refine X_tl (y := lN (10)) rfl ?_
    refine X_cS (As := [.long ((a2).toInt64), .long (lN (0)), .long (lN (10))]) (st := []) C (post := _) (ct_X8_in hw ((a2).toInt64) (lN (0)) (lN (10)) h g) kX8_54 (by decide) (by decide) rfl rfl (Nat.le_of_ble_eq_true rfl) (D (13, .invokestatic 54, 3) (mg 7 rfl)) rfl (fun v11 H9 G10 hv11 => ?_)
    obtain ⟨rfl, rfl, rfl⟩ := hv11
    show X k w _ 16 [some (.ref (wA w (m))), some (.int (nI (n8))), some (.int (a2)), none, none, none, none, none, none, none] [.int (if (lN (0)).toInt ≤ ((a2).toInt64).toInt ∧ ((a2).toInt64).toInt ≤ (lN (10)).toInt then 1 else 0)] h g
    refine X_if_ne (tgt := 26) C (D (16, .ifCond .ne 10, 3) (mg 8 rfl)) (by decide) (fun q12 => ?_) (fun q12 => ?_)
    · skip
      have q12 : ((lN (0)).toInt ≤ ((a2).toInt64).toInt ∧ ((a2).toInt64).toInt ≤ (lN (10)).toInt) := bz1.mp q12
      simp only [i6, pk_lT (n := 0) (by omega), pk_lT (n := 10) (by omega)] at q12
      obtain ⟨n13, hn13, rfl⟩ := nI_i (x := a2) (n := 11) (by omega) (by omega)
      refine X_lconst (v := lN 0) C (D (26, .lconst 0, 1) (mg 13 rfl)) (by decide) ?_
      refine X_lstore_n (ls' := [some (.ref (wA w (m))), some (.int (nI (n8))), some (.int (nI (n13))), some (.long (lN (0))), none, none, none, none, none, none]) C 3 (D (27, .lstore_n 3, 1) (mg 14 rfl)) rfl (Nat.le_of_ble_eq_true rfl) rfl ?_
      refine X_iconst (v := nI (0)) C (D (28, .iconst 0, 1) (mg 15 rfl)) (by decide) ?_
      refine X_istore (ls' := [some (.ref (wA w (m))), some (.int (nI (n8))), some (.int (nI (n13))), some (.long (lN (0))), none, some (.int (nI (0))), none, none, none, none]) C (D (29, .istore 5, 2) (mg 16 rfl)) (Nat.le_of_ble_eq_true rfl) rfl ?_
      have lp31 : ∀ (nn31 : Nat) (S3 : Nat) (j : Nat), (j ≤ 4) → (S3 ≤ 100 * j) → 5 - j ≤ nn31 → X k w (Zq k w (PP)) 31 [some (.ref (wA w (m))), some (.int (nI (n8))), some (.int (nI (n13))), some (.long (lN (S3))), none, some (.int (nI (j))), none, none, none, none] [] h g := by
        intro nn31
        induction nn31 with
        | zero => intro S3 j hc31_0 hc31_1 hz; exact absurd hz (by omega)
        | succ nn31 ih31 =>
          intro S3 j hc31_0 hc31_1 hz31
          refine X_iload C (D (31, .iload 5, 2) (mg 17 rfl)) rfl ?_
          refine X_iconst (v := nI (4)) C (D (33, .iconst 4, 1) (mg 18 rfl)) (by decide) ?_
          refine X_icmp_ge (tgt := 148) C (D (34, .if_icmp .ge 114, 3) (mg 19 rfl)) (by decide) (fun q14 => ?_) (fun q14 => ?_)
          · skip
            have q14 : (j) ≥ (4) := by have z := (nI_leI (a := (4)) (b := (j)) (by omega) (by omega)).mp q14; omega
            refine X_aload_n C 0 (D (148, .aload_n 0, 1) (mg 75 rfl)) rfl rfl ?_
            refine X_lload_n C 3 (D (149, .lload_n 3, 1) (mg 76 rfl)) rfl rfl ?_
            refine X_ldc2 C (D (150, .ldc2_w 212, 3) (mg 77 rfl)) vX8_212 ?_
            refine X_tl (y := lN (100)) rfl ?_
            refine X_cV (As := [.long (lN (S3)), .long (lN (100))]) (st := []) C (post := _) (m) (by omega) hsm rfl (ct_X8_fraction hw hM (A := S3) (B := 100) (by omega) (by omega) h g) kX8_214 (by decide) (by decide) rfl rfl (Nat.le_of_ble_eq_true rfl) (D (153, .invokevirtual 214, 3) (mg 78 rfl)) rfl (fun v17 H15 G16 hv17 => ?_)
            obtain ⟨rfl, rfl⟩ := hv17
            show X k w _ 156 [some (.ref (wA w (m))), some (.int (nI (n8))), some (.int (nI (n13))), some (.long (lN (S3))), none, some (.int (nI (j))), none, none, none, none] [] h G16
            refine X_iconst (v := nI (1)) C (D (156, .iconst 1, 1) (mg 79 rfl)) (by decide) ?_
            exact X_iret C (D (157, .ireturn, 1) (mg 80 rfl)) (by rw [← hPP]; exact ⟨Or.inl ⟨(by unfold frP; omega), rfl⟩, (mW_r hI)⟩)
          · skip
            have q14 : (j) < (4) := by have z : ¬ ((4) ≤ (j)) := fun u => q14 ((nI_leI (a := (4)) (b := (j)) (by omega) (by omega)).mpr u); omega
            refine X_aload_n C 0 (D (37, .aload_n 0, 1) (mg 20 rfl)) rfl rfl ?_
            refine X_get (v := .ref (wA w (m + 1))) C (m) 0 (by omega) hsm rfl rfl (by decide) inX8 fX8_7 rfl (D (38, .getfield 7, 3) (mg 21 rfl)) rfl ?_
            refine X_iload_n C 1 (D (41, .iload_n 1, 1) (mg 22 rfl)) rfl rfl ?_
            refine X_cS (As := [.ref (wA w (m + 1)), .int (nI (n8))]) (st := []) C (post := _) (ct_X8_lies hw (⟨by omega, hs1, by omega, by omega⟩ : rw56 w (m + 1) 310) (by omega) h g) kX8_64 (by decide) (by decide) rfl rfl (Nat.le_of_ble_eq_true rfl) (D (42, .invokestatic 64, 3) (mg 23 rfl)) rfl (fun v20 H18 G19 hv20 => ?_)
            obtain ⟨rfl, rfl, rfl⟩ := hv20
            show X k w _ 45 [some (.ref (wA w (m))), some (.int (nI (n8))), some (.int (nI (n13))), some (.long (lN (S3))), none, some (.int (nI (j))), none, none, none, none] [.int (if ¬ h (m + 1) (3 + (n8)) = 0 then 1 else 0)] h g
            refine X_if_eq (tgt := 148) C (D (45, .ifCond .eq 103, 3) (mg 24 rfl)) (by decide) (fun q21 => ?_) (fun q21 => ?_)
            · skip
              have q21 : ¬ (¬ h (m + 1) (3 + (n8)) = 0) := bz0.mp q21
              refine X_aload_n C 0 (D (148, .aload_n 0, 1) (mg 75 rfl)) rfl rfl ?_
              refine X_lload_n C 3 (D (149, .lload_n 3, 1) (mg 76 rfl)) rfl rfl ?_
              refine X_ldc2 C (D (150, .ldc2_w 212, 3) (mg 77 rfl)) vX8_212 ?_
              refine X_tl (y := lN (100)) rfl ?_
              refine X_cV (As := [.long (lN (S3)), .long (lN (100))]) (st := []) C (post := _) (m) (by omega) hsm rfl (ct_X8_fraction hw hM (A := S3) (B := 100) (by omega) (by omega) h g) kX8_214 (by decide) (by decide) rfl rfl (Nat.le_of_ble_eq_true rfl) (D (153, .invokevirtual 214, 3) (mg 78 rfl)) rfl (fun v24 H22 G23 hv24 => ?_)
              obtain ⟨rfl, rfl⟩ := hv24
              show X k w _ 156 [some (.ref (wA w (m))), some (.int (nI (n8))), some (.int (nI (n13))), some (.long (lN (S3))), none, some (.int (nI (j))), none, none, none, none] [] h G23
              refine X_iconst (v := nI (1)) C (D (156, .iconst 1, 1) (mg 79 rfl)) (by decide) ?_
              exact X_iret C (D (157, .ireturn, 1) (mg 80 rfl)) (by rw [← hPP]; exact ⟨Or.inl ⟨(by unfold frP; omega), rfl⟩, (mW_r hI)⟩)
            · skip
              have q21 : (¬ h (m + 1) (3 + (n8)) = 0) := bz1.mp q21
              refine X_aload_n C 0 (D (48, .aload_n 0, 1) (mg 25 rfl)) rfl rfl ?_
              refine X_get (v := .ref (wA w (m + 1))) C (m) 0 (by omega) hsm rfl rfl (by decide) inX8 fX8_7 rfl (D (49, .getfield 7, 3) (mg 26 rfl)) rfl ?_
              refine X_iload_n C 1 (D (52, .iload_n 1, 1) (mg 27 rfl)) rfl rfl ?_
              refine X_cS (As := [.ref (wA w (m + 1)), .int (nI (n8))]) (st := []) C (post := _) (ct_X8_depthOf hw (⟨by omega, hs1, by omega, by omega⟩ : rw56 w (m + 1) 310) (by omega) h g) kX8_90 (by decide) (by decide) rfl rfl (Nat.le_of_ble_eq_true rfl) (D (53, .invokestatic 90, 3) (mg 28 rfl)) rfl (fun v27 H25 G26 hv27 => ?_)
              obtain ⟨rfl, rfl, rfl⟩ := hv27
              show X k w _ 56 [some (.ref (wA w (m))), some (.int (nI (n8))), some (.int (nI (n13))), some (.long (lN (S3))), none, some (.int (nI (j))), none, none, none, none] [.int (mD (h (m + 1) (3 + (n8))))] h g
              refine X_istore (ls' := [some (.ref (wA w (m))), some (.int (nI (n8))), some (.int (nI (n13))), some (.long (lN (S3))), none, some (.int (nI (j))), some (.int (mD (h (m + 1) (3 + (n8))))), none, none, none]) C (D (56, .istore 6, 2) (mg 29 rfl)) (Nat.le_of_ble_eq_true rfl) rfl ?_
              refine X_lconst (v := lN 1) C (D (58, .lconst 1, 1) (mg 30 rfl)) (by decide) ?_
              refine X_lstore (ls' := [some (.ref (wA w (m))), some (.int (nI (n8))), some (.int (nI (n13))), some (.long (lN (S3))), none, some (.int (nI (j))), some (.int (mD (h (m + 1) (3 + (n8))))), some (.long (lN (1))), none, none]) C (D (59, .lstore 7, 2) (mg 31 rfl)) (Nat.le_of_ble_eq_true rfl) rfl ?_
              refine X_iconst (v := nI (0)) C (D (61, .iconst 0, 1) (mg 32 rfl)) (by decide) ?_
              refine X_istore (ls' := [some (.ref (wA w (m))), some (.int (nI (n8))), some (.int (nI (n13))), some (.long (lN (S3))), none, some (.int (nI (j))), some (.int (mD (h (m + 1) (3 + (n8))))), some (.long (lN (1))), none, some (.int (nI (0)))]) C (D (62, .istore 9, 2) (mg 33 rfl)) (Nat.le_of_ble_eq_true rfl) rfl ?_
              have lp64 : ∀ (nn64 : Nat) (C7 : Nat) (k9 : Nat) (d6 : Int32), (k9 ≤ 2) → (C7 ≤ 10 ^ k9) → 3 - k9 ≤ nn64 → X k w (Zq k w (PP)) 64 [some (.ref (wA w (m))), some (.int (nI (n8))), some (.int (nI (n13))), some (.long (lN (S3))), none, some (.int (nI (j))), some (.int (d6)), some (.long (lN (C7))), none, some (.int (nI (k9)))] [] h g := by
                intro nn64
                induction nn64 with
                | zero => intro C7 k9 d6 hc64_0 hc64_1 hz; exact absurd hz (by omega)
                | succ nn64 ih64 =>
                  intro C7 k9 d6 hc64_0 hc64_1 hz64
                  refine X_iload C (D (64, .iload 9, 2) (mg 34 rfl)) rfl ?_
                  refine X_iconst (v := nI (2)) C (D (66, .iconst 2, 1) (mg 35 rfl)) (by decide) ?_
                  refine X_icmp_ge (tgt := 128) C (D (67, .if_icmp .ge 61, 3) (mg 36 rfl)) (by decide) (fun q28 => ?_) (fun q28 => ?_)
                  · skip
                    have q28 : (k9) ≥ (2) := by have z := (nI_leI (a := (2)) (b := (k9)) (by omega) (by omega)).mp q28; omega
                    have h100 : C7 ≤ 100 := by have hh := hc64_1; rw [show k9 = 2 by omega] at hh; exact hh
                    refine X_lload_n C 3 (D (128, .lload_n 3, 1) (mg 65 rfl)) rfl rfl ?_
                    refine X_iload C (D (129, .iload 6, 2) (mg 66 rfl)) rfl ?_
                    refine X_if_le (tgt := 139) C (D (131, .ifCond .le 8, 3) (mg 67 rfl)) (by decide) (fun q29 => ?_) (fun q29 => ?_)
                    · skip
                      refine X_lconst (v := lN 0) C (D (139, .lconst 0, 1) (mg 70 rfl)) (by decide) ?_
                      refine X_ladd C (D (140, .ladd, 1) (mg 71 rfl)) ?_
                      refine X_tl (y := lN ((S3) + (0))) (lN_add (S3) (0)) ?_
                      refine X_lstore_n (ls' := [some (.ref (wA w (m))), some (.int (nI (n8))), some (.int (nI (n13))), some (.long (lN ((S3) + (0)))), none, some (.int (nI (j))), some (.int (d6)), some (.long (lN (C7))), none, some (.int (nI (k9)))]) C 3 (D (141, .lstore_n 3, 1) (mg 72 rfl)) rfl (Nat.le_of_ble_eq_true rfl) rfl ?_
                      refine X_iinc (v := nI (j + 1)) (ls' := [some (.ref (wA w (m))), some (.int (nI (n8))), some (.int (nI (n13))), some (.long (lN ((S3) + (0)))), none, some (.int (nI (j + 1))), some (.int (d6)), some (.long (lN (C7))), none, some (.int (nI (k9)))]) C (D (142, .iinc 5 1, 3) (mg 73 rfl)) rfl (nI_add (j) 1) rfl ?_
                      refine X_goto (tgt := 31) C (D (145, .goto (-114), 3) (mg 74 rfl)) (by decide) ?_
                      refine X_los (ls' := [some (.ref (wA w (m))), some (.int (nI (n8))), some (.int (nI (n13))), some (.long (lN ((S3) + (0)))), none, some (.int (nI (j + 1))), none, none, none, none]) (by simp [lsub]) ?_
                      refine X_eq (ls' := [some (.ref (wA w (m))), some (.int (nI (n8))), some (.int (nI (n13))), some (.long (lN ((S3) + (0)))), none, some (.int (nI (j + 1))), none, none, none, none]) (st' := []) (h' := h) (g' := g) rfl rfl rfl rfl ?_
                      exact ih31 ((S3) + (0)) (j + 1) (by omega) (by omega) (by omega)
                    · skip
                      refine X_lload C (D (134, .lload 7, 2) (mg 68 rfl)) rfl ?_
                      refine X_goto (tgt := 140) C (D (136, .goto 4, 3) (mg 69 rfl)) (by decide) ?_
                      refine X_ladd C (D (140, .ladd, 1) (mg 71 rfl)) ?_
                      refine X_tl (y := lN ((S3) + (C7))) (lN_add (S3) (C7)) ?_
                      refine X_lstore_n (ls' := [some (.ref (wA w (m))), some (.int (nI (n8))), some (.int (nI (n13))), some (.long (lN ((S3) + (C7)))), none, some (.int (nI (j))), some (.int (d6)), some (.long (lN (C7))), none, some (.int (nI (k9)))]) C 3 (D (141, .lstore_n 3, 1) (mg 72 rfl)) rfl (Nat.le_of_ble_eq_true rfl) rfl ?_
                      refine X_iinc (v := nI (j + 1)) (ls' := [some (.ref (wA w (m))), some (.int (nI (n8))), some (.int (nI (n13))), some (.long (lN ((S3) + (C7)))), none, some (.int (nI (j + 1))), some (.int (d6)), some (.long (lN (C7))), none, some (.int (nI (k9)))]) C (D (142, .iinc 5 1, 3) (mg 73 rfl)) rfl (nI_add (j) 1) rfl ?_
                      refine X_goto (tgt := 31) C (D (145, .goto (-114), 3) (mg 74 rfl)) (by decide) ?_
                      refine X_los (ls' := [some (.ref (wA w (m))), some (.int (nI (n8))), some (.int (nI (n13))), some (.long (lN ((S3) + (C7)))), none, some (.int (nI (j + 1))), none, none, none, none]) (by simp [lsub]) ?_
                      refine X_eq (ls' := [some (.ref (wA w (m))), some (.int (nI (n8))), some (.int (nI (n13))), some (.long (lN ((S3) + (C7)))), none, some (.int (nI (j + 1))), none, none, none, none]) (st' := []) (h' := h) (g' := g) rfl rfl rfl rfl ?_
                      exact ih31 ((S3) + (C7)) (j + 1) (by omega) (by omega) (by omega)
                  · skip
                    have q28 : (k9) < (2) := by have z : ¬ ((2) ≤ (k9)) := fun u => q28 ((nI_leI (a := (2)) (b := (k9)) (by omega) (by omega)).mpr u); omega
                    refine X_lload C (D (70, .lload 7, 2) (mg 37 rfl)) rfl ?_
                    refine X_iload C (D (72, .iload 5, 2) (mg 38 rfl)) rfl ?_
                    refine X_iload C (D (74, .iload 9, 2) (mg 39 rfl)) rfl ?_
                    refine X_cS (As := [.int (nI (j)), .int (nI (k9))]) (st := [.long (lN (C7))]) C (post := _) (ct_X8_has hw (nI (j)) (nI (k9)) h g) kX8_158 (by decide) (by decide) rfl rfl (Nat.le_of_ble_eq_true rfl) (D (76, .invokestatic 158, 3) (mg 40 rfl)) rfl (fun v32 H30 G31 hv32 => ?_)
                    obtain ⟨rfl, rfl, rfl⟩ := hv32
                    show X k w _ 79 [some (.ref (wA w (m))), some (.int (nI (n8))), some (.int (nI (n13))), some (.long (lN (S3))), none, some (.int (nI (j))), some (.int (d6)), some (.long (lN (C7))), none, some (.int (nI (k9)))] [.int (if ((nI (j)) >>> ((nI (k9)) &&& 31)) &&& nI 1 = nI 1 then 1 else 0), .long (lN (C7))] h g
                    refine X_if_eq (tgt := 90) C (D (79, .ifCond .eq 11, 3) (mg 41 rfl)) (by decide) (fun q33 => ?_) (fun q33 => ?_)
                    · skip
                      have q33 : ¬ (((nI (j)) >>> ((nI (k9)) &&& 31)) &&& nI 1 = nI 1) := bz0.mp q33
                      refine X_iload_n C 2 (D (90, .iload_n 2, 1) (mg 47 rfl)) rfl rfl ?_
                      refine X_i2l C (D (91, .i2l, 1) (mg 48 rfl)) ?_
                      refine X_tl (y := lN (n13)) (nI_l (by omega)) ?_
                      refine X_lmul C (D (92, .lmul, 1) (mg 49 rfl)) ?_
                      refine X_tl (y := lN ((C7) * (n13))) (lN_mul (C7) (n13)) ?_
                      refine X_lstore (ls' := [some (.ref (wA w (m))), some (.int (nI (n8))), some (.int (nI (n13))), some (.long (lN (S3))), none, some (.int (nI (j))), some (.int (d6)), some (.long (lN ((C7) * (n13)))), none, some (.int (nI (k9)))]) C (D (93, .lstore 7, 2) (mg 50 rfl)) (Nat.le_of_ble_eq_true rfl) rfl ?_
                      refine X_iload C (D (95, .iload 5, 2) (mg 51 rfl)) rfl ?_
                      refine X_iload C (D (97, .iload 9, 2) (mg 52 rfl)) rfl ?_
                      refine X_cS (As := [.int (nI (j)), .int (nI (k9))]) (st := []) C (post := _) (ct_X8_has hw (nI (j)) (nI (k9)) h g) kX8_158 (by decide) (by decide) rfl rfl (Nat.le_of_ble_eq_true rfl) (D (99, .invokestatic 158, 3) (mg 53 rfl)) rfl (fun v36 H34 G35 hv36 => ?_)
                      obtain ⟨rfl, rfl, rfl⟩ := hv36
                      show X k w _ 102 [some (.ref (wA w (m))), some (.int (nI (n8))), some (.int (nI (n13))), some (.long (lN (S3))), none, some (.int (nI (j))), some (.int (d6)), some (.long (lN ((C7) * (n13)))), none, some (.int (nI (k9)))] [.int (if ((nI (j)) >>> ((nI (k9)) &&& 31)) &&& nI 1 = nI 1 then 1 else 0)] h g
                      refine X_if_eq (tgt := 118) C (D (102, .ifCond .eq 16, 3) (mg 54 rfl)) (by decide) (fun q37 => ?_) (fun q37 => ?_)
                      · skip
                        have q37 : ¬ (((nI (j)) >>> ((nI (k9)) &&& 31)) &&& nI 1 = nI 1) := bz0.mp q37
                        refine X_iload C (D (118, .iload 6, 2) (mg 61 rfl)) rfl ?_
                        refine X_istore (ls' := [some (.ref (wA w (m))), some (.int (nI (n8))), some (.int (nI (n13))), some (.long (lN (S3))), none, some (.int (nI (j))), some (.int (d6)), some (.long (lN ((C7) * (n13)))), none, some (.int (nI (k9)))]) C (D (120, .istore 6, 2) (mg 62 rfl)) (Nat.le_of_ble_eq_true rfl) rfl ?_
                        refine X_iinc (v := nI (k9 + 1)) (ls' := [some (.ref (wA w (m))), some (.int (nI (n8))), some (.int (nI (n13))), some (.long (lN (S3))), none, some (.int (nI (j))), some (.int (d6)), some (.long (lN ((C7) * (n13)))), none, some (.int (nI (k9 + 1)))]) C (D (122, .iinc 9 1, 3) (mg 63 rfl)) rfl (nI_add (k9) 1) rfl ?_
                        refine X_goto (tgt := 64) C (D (125, .goto (-61), 3) (mg 64 rfl)) (by decide) ?_
                        refine X_eq (ls' := [some (.ref (wA w (m))), some (.int (nI (n8))), some (.int (nI (n13))), some (.long (lN (S3))), none, some (.int (nI (j))), some (.int (d6)), some (.long (lN ((C7) * (n13)))), none, some (.int (nI (k9 + 1)))]) (st' := []) (h' := h) (g' := g) rfl rfl rfl rfl ?_
                        exact ih64 ((C7) * (n13)) (k9 + 1) (d6) (by omega) (fr_mul hc64_1 (by omega)) (by omega)
                      · skip
                        have q37 : (((nI (j)) >>> ((nI (k9)) &&& 31)) &&& nI 1 = nI 1) := bz1.mp q37
                        refine X_aload_n C 0 (D (105, .aload_n 0, 1) (mg 55 rfl)) rfl rfl ?_
                        refine X_get (v := .ref (wA w (m + 1))) C (m) 0 (by omega) hsm rfl rfl (by decide) inX8 fX8_7 rfl (D (106, .getfield 7, 3) (mg 56 rfl)) rfl ?_
                        refine X_iload_n C 1 (D (109, .iload_n 1, 1) (mg 57 rfl)) rfl rfl ?_
                        refine X_iload C (D (110, .iload 6, 2) (mg 58 rfl)) rfl ?_
                        refine X_cS (As := [.ref (wA w (m + 1)), .int (nI (n8)), .int (d6)]) (st := []) C (post := _) (ct_X8_comesTo hw (⟨by omega, hs1, by omega, by omega⟩ : rw56 w (m + 1) 310) (by omega) (d6) h g) kX8_114 (by decide) (by decide) rfl rfl (Nat.le_of_ble_eq_true rfl) (D (112, .invokestatic 114, 3) (mg 59 rfl)) rfl (fun v40 H38 G39 hv40 => ?_)
                        obtain ⟨rfl, rfl, rfl⟩ := hv40
                        show X k w _ 115 [some (.ref (wA w (m))), some (.int (nI (n8))), some (.int (nI (n13))), some (.long (lN (S3))), none, some (.int (nI (j))), some (.int (d6)), some (.long (lN ((C7) * (n13)))), none, some (.int (nI (k9)))] [.int (coV (h (m + 1) 30) (h (m + 1) (31 + (n8))) (d6))] h g
                        refine X_goto (tgt := 120) C (D (115, .goto 5, 3) (mg 60 rfl)) (by decide) ?_
                        refine X_istore (ls' := [some (.ref (wA w (m))), some (.int (nI (n8))), some (.int (nI (n13))), some (.long (lN (S3))), none, some (.int (nI (j))), some (.int (coV (h (m + 1) 30) (h (m + 1) (31 + (n8))) (d6))), some (.long (lN ((C7) * (n13)))), none, some (.int (nI (k9)))]) C (D (120, .istore 6, 2) (mg 62 rfl)) (Nat.le_of_ble_eq_true rfl) rfl ?_
                        refine X_iinc (v := nI (k9 + 1)) (ls' := [some (.ref (wA w (m))), some (.int (nI (n8))), some (.int (nI (n13))), some (.long (lN (S3))), none, some (.int (nI (j))), some (.int (coV (h (m + 1) 30) (h (m + 1) (31 + (n8))) (d6))), some (.long (lN ((C7) * (n13)))), none, some (.int (nI (k9 + 1)))]) C (D (122, .iinc 9 1, 3) (mg 63 rfl)) rfl (nI_add (k9) 1) rfl ?_
                        refine X_goto (tgt := 64) C (D (125, .goto (-61), 3) (mg 64 rfl)) (by decide) ?_
                        refine X_eq (ls' := [some (.ref (wA w (m))), some (.int (nI (n8))), some (.int (nI (n13))), some (.long (lN (S3))), none, some (.int (nI (j))), some (.int (coV (h (m + 1) 30) (h (m + 1) (31 + (n8))) (d6))), some (.long (lN ((C7) * (n13)))), none, some (.int (nI (k9 + 1)))]) (st' := []) (h' := h) (g' := g) rfl rfl rfl rfl ?_
                        exact ih64 ((C7) * (n13)) (k9 + 1) (coV (h (m + 1) 30) (h (m + 1) (31 + (n8))) (d6)) (by omega) (fr_mul hc64_1 (by omega)) (by omega)
                    · skip
                      have q33 : (((nI (j)) >>> ((nI (k9)) &&& 31)) &&& nI 1 = nI 1) := bz1.mp q33
                      refine X_bipush (v := nI (10)) C (D (82, .bipush 10, 2) (mg 42 rfl)) (by decide) ?_
                      refine X_iload_n C 2 (D (84, .iload_n 2, 1) (mg 43 rfl)) rfl rfl ?_
                      refine X_isub C (D (85, .isub, 1) (mg 44 rfl)) ?_
                      refine X_ti (y := nI (10 - n13)) (pk_sub (by omega)) ?_
                      refine X_i2l C (D (86, .i2l, 1) (mg 45 rfl)) ?_
                      refine X_tl (y := lN (10 - n13)) (nI_l (by omega)) ?_
                      refine X_goto (tgt := 92) C (D (87, .goto 5, 3) (mg 46 rfl)) (by decide) ?_
                      refine X_lmul C (D (92, .lmul, 1) (mg 49 rfl)) ?_
                      refine X_tl (y := lN ((C7) * (10 - n13))) (lN_mul (C7) (10 - n13)) ?_
                      refine X_lstore (ls' := [some (.ref (wA w (m))), some (.int (nI (n8))), some (.int (nI (n13))), some (.long (lN (S3))), none, some (.int (nI (j))), some (.int (d6)), some (.long (lN ((C7) * (10 - n13)))), none, some (.int (nI (k9)))]) C (D (93, .lstore 7, 2) (mg 50 rfl)) (Nat.le_of_ble_eq_true rfl) rfl ?_
                      refine X_iload C (D (95, .iload 5, 2) (mg 51 rfl)) rfl ?_
                      refine X_iload C (D (97, .iload 9, 2) (mg 52 rfl)) rfl ?_
                      refine X_cS (As := [.int (nI (j)), .int (nI (k9))]) (st := []) C (post := _) (ct_X8_has hw (nI (j)) (nI (k9)) h g) kX8_158 (by decide) (by decide) rfl rfl (Nat.le_of_ble_eq_true rfl) (D (99, .invokestatic 158, 3) (mg 53 rfl)) rfl (fun v43 H41 G42 hv43 => ?_)
                      obtain ⟨rfl, rfl, rfl⟩ := hv43
                      show X k w _ 102 [some (.ref (wA w (m))), some (.int (nI (n8))), some (.int (nI (n13))), some (.long (lN (S3))), none, some (.int (nI (j))), some (.int (d6)), some (.long (lN ((C7) * (10 - n13)))), none, some (.int (nI (k9)))] [.int (if ((nI (j)) >>> ((nI (k9)) &&& 31)) &&& nI 1 = nI 1 then 1 else 0)] h g
                      refine X_if_eq (tgt := 118) C (D (102, .ifCond .eq 16, 3) (mg 54 rfl)) (by decide) (fun q44 => ?_) (fun q44 => ?_)
                      · skip
                        have q44 : ¬ (((nI (j)) >>> ((nI (k9)) &&& 31)) &&& nI 1 = nI 1) := bz0.mp q44
                        refine X_iload C (D (118, .iload 6, 2) (mg 61 rfl)) rfl ?_
                        refine X_istore (ls' := [some (.ref (wA w (m))), some (.int (nI (n8))), some (.int (nI (n13))), some (.long (lN (S3))), none, some (.int (nI (j))), some (.int (d6)), some (.long (lN ((C7) * (10 - n13)))), none, some (.int (nI (k9)))]) C (D (120, .istore 6, 2) (mg 62 rfl)) (Nat.le_of_ble_eq_true rfl) rfl ?_
                        refine X_iinc (v := nI (k9 + 1)) (ls' := [some (.ref (wA w (m))), some (.int (nI (n8))), some (.int (nI (n13))), some (.long (lN (S3))), none, some (.int (nI (j))), some (.int (d6)), some (.long (lN ((C7) * (10 - n13)))), none, some (.int (nI (k9 + 1)))]) C (D (122, .iinc 9 1, 3) (mg 63 rfl)) rfl (nI_add (k9) 1) rfl ?_
                        refine X_goto (tgt := 64) C (D (125, .goto (-61), 3) (mg 64 rfl)) (by decide) ?_
                        refine X_eq (ls' := [some (.ref (wA w (m))), some (.int (nI (n8))), some (.int (nI (n13))), some (.long (lN (S3))), none, some (.int (nI (j))), some (.int (d6)), some (.long (lN ((C7) * (10 - n13)))), none, some (.int (nI (k9 + 1)))]) (st' := []) (h' := h) (g' := g) rfl rfl rfl rfl ?_
                        exact ih64 ((C7) * (10 - n13)) (k9 + 1) (d6) (by omega) (fr_mul hc64_1 (by omega)) (by omega)
                      · skip
                        have q44 : (((nI (j)) >>> ((nI (k9)) &&& 31)) &&& nI 1 = nI 1) := bz1.mp q44
                        refine X_aload_n C 0 (D (105, .aload_n 0, 1) (mg 55 rfl)) rfl rfl ?_
                        refine X_get (v := .ref (wA w (m + 1))) C (m) 0 (by omega) hsm rfl rfl (by decide) inX8 fX8_7 rfl (D (106, .getfield 7, 3) (mg 56 rfl)) rfl ?_
                        refine X_iload_n C 1 (D (109, .iload_n 1, 1) (mg 57 rfl)) rfl rfl ?_
                        refine X_iload C (D (110, .iload 6, 2) (mg 58 rfl)) rfl ?_
                        refine X_cS (As := [.ref (wA w (m + 1)), .int (nI (n8)), .int (d6)]) (st := []) C (post := _) (ct_X8_comesTo hw (⟨by omega, hs1, by omega, by omega⟩ : rw56 w (m + 1) 310) (by omega) (d6) h g) kX8_114 (by decide) (by decide) rfl rfl (Nat.le_of_ble_eq_true rfl) (D (112, .invokestatic 114, 3) (mg 59 rfl)) rfl (fun v47 H45 G46 hv47 => ?_)
                        obtain ⟨rfl, rfl, rfl⟩ := hv47
                        show X k w _ 115 [some (.ref (wA w (m))), some (.int (nI (n8))), some (.int (nI (n13))), some (.long (lN (S3))), none, some (.int (nI (j))), some (.int (d6)), some (.long (lN ((C7) * (10 - n13)))), none, some (.int (nI (k9)))] [.int (coV (h (m + 1) 30) (h (m + 1) (31 + (n8))) (d6))] h g
                        refine X_goto (tgt := 120) C (D (115, .goto 5, 3) (mg 60 rfl)) (by decide) ?_
                        refine X_istore (ls' := [some (.ref (wA w (m))), some (.int (nI (n8))), some (.int (nI (n13))), some (.long (lN (S3))), none, some (.int (nI (j))), some (.int (coV (h (m + 1) 30) (h (m + 1) (31 + (n8))) (d6))), some (.long (lN ((C7) * (10 - n13)))), none, some (.int (nI (k9)))]) C (D (120, .istore 6, 2) (mg 62 rfl)) (Nat.le_of_ble_eq_true rfl) rfl ?_
                        refine X_iinc (v := nI (k9 + 1)) (ls' := [some (.ref (wA w (m))), some (.int (nI (n8))), some (.int (nI (n13))), some (.long (lN (S3))), none, some (.int (nI (j))), some (.int (coV (h (m + 1) 30) (h (m + 1) (31 + (n8))) (d6))), some (.long (lN ((C7) * (10 - n13)))), none, some (.int (nI (k9 + 1)))]) C (D (122, .iinc 9 1, 3) (mg 63 rfl)) rfl (nI_add (k9) 1) rfl ?_
                        refine X_goto (tgt := 64) C (D (125, .goto (-61), 3) (mg 64 rfl)) (by decide) ?_
                        refine X_eq (ls' := [some (.ref (wA w (m))), some (.int (nI (n8))), some (.int (nI (n13))), some (.long (lN (S3))), none, some (.int (nI (j))), some (.int (coV (h (m + 1) 30) (h (m + 1) (31 + (n8))) (d6))), some (.long (lN ((C7) * (10 - n13)))), none, some (.int (nI (k9 + 1)))]) (st' := []) (h' := h) (g' := g) rfl rfl rfl rfl ?_
                        exact ih64 ((C7) * (10 - n13)) (k9 + 1) (coV (h (m + 1) 30) (h (m + 1) (31 + (n8))) (d6)) (by omega) (fr_mul hc64_1 (by omega)) (by omega)
              refine X_eq (ls' := [some (.ref (wA w (m))), some (.int (nI (n8))), some (.int (nI (n13))), some (.long (lN (S3))), none, some (.int (nI (j))), some (.int (mD (h (m + 1) (3 + (n8))))), some (.long (lN (1))), none, some (.int (nI (0)))]) (st' := []) (h' := h) (g' := g) rfl rfl rfl rfl ?_
              exact lp64 _ (1) (0) (mD (h (m + 1) (3 + (n8)))) (by omega) (by decide) (Nat.le_refl _)
      refine X_eq (ls' := [some (.ref (wA w (m))), some (.int (nI (n8))), some (.int (nI (n13))), some (.long (lN (0))), none, some (.int (nI (0))), none, none, none, none]) (st' := []) (h' := h) (g' := g) rfl rfl rfl rfl ?_
      exact lp31 _ (0) (0) (by omega) (by omega) (Nat.le_refl _)
    · skip
      have q12 : ¬ ((lN (0)).toInt ≤ ((a2).toInt64).toInt ∧ ((a2).toInt64).toInt ≤ (lN (10)).toInt) := bz0.mp q12
      simp only [i6, pk_lT (n := 0) (by omega), pk_lT (n := 10) (by omega)] at q12
      refine X_aload_n C 0 (D (19, .aload_n 0, 1) (mg 9 rfl)) rfl rfl ?_
      refine X_bipush (v := (-2 : Int32)) C (D (20, .bipush (-2), 2) (mg 10 rfl)) (by decide) ?_
      refine X_cV (As := [.int ((-2 : Int32))]) (st := []) C (post := _) (m) (by omega) hsm rfl (ct_X8_bad hw hM ((-2 : Int32)) h g) kX8_75 (by decide) (by decide) rfl rfl (Nat.le_of_ble_eq_true rfl) (D (22, .invokevirtual 75, 3) (mg 11 rfl)) rfl (fun v50 H48 G49 hv50 => ?_)
      obtain ⟨rfl, rfl, rfl⟩ := hv50
      show X k w _ 25 [some (.ref (wA w (m))), some (.int (nI (n8))), some (.int (a2)), none, none, none, none, none, none, none] [.int ((-2 : Int32))] (rfH h m 0) g
      exact X_iret C (D (25, .ireturn, 1) (mg 12 rfl)) (by rw [← hPP]; exact ⟨Or.inr ⟨(by unfold frP; omega), rfl⟩, ⟨fun q i z0 => by have z := z0; unfold SM at z; rw [rfH_ne _ _ _ (by omega)], rU_k (fun i => by rw [rfH_ne _ _ _ (by omega)]) hI.1⟩⟩)
set_option maxHeartbeats 4000000 in
set_option maxRecDepth 100000 in
theorem ct_X8_years {l : Launch} {w : Kw} (hw : wOk w) {m : Nat} (hM : shM w m) (a1 : Int32) (a2 : Int32) (h : xI) (g : xJ) (hI : mOk h m) : Ct l w yX8_years cX8_years 8 (some .int) 4 91 [.ref (wA w (m)), .int (a1), .int (a2)] h g (pQ (mW m h)) := by
  refine Ct_of (ls := [some (.ref (wA w (m))), some (.int (a1)), some (.int (a2)), none, none, none, none, none]) (by decide) hw (Nat.le_of_ble_eq_true rfl) rfl (fun k hkl C => ?_)
  have C : Cx k w cX8_years RX8 8 (some .int) 4 91 := C
  have D := dtX8_years
  subst hkl
  have hM0 := hM
  obtain ⟨hm, hsm, hs1, hs2, hs3, hs4, hs5, hs6, hs7, hs8, hs9, hs10, hs11⟩ := hM
  have hM := hM0
  have hI0 := hI
  obtain ⟨⟨⟨nu, hnu, eu⟩, ⟨c0, hc0, hat⟩, hpl⟩, ⟨⟨ns, hns, hse⟩, ⟨nm, hnm, hma⟩⟩, hK, ⟨nt, hnt, htx⟩⟩ := hI
  have hI := hI0
  refine X_iload_n C 1 (D (0, .iload_n 1, 1) (mg 0 rfl)) rfl rfl ?_
  refine X_i2l C (D (1, .i2l, 1) (mg 1 rfl)) ?_
  refine X_lconst (v := lN 0) C (D (2, .lconst 0, 1) (mg 2 rfl)) (by decide) ?_
  refine X_ldc2 C (D (3, .ldc2_w 218, 3) (mg 3 rfl)) vX8_218 ?_
  refine X_tl (y := lN (999999)) rfl ?_
  refine X_cS (As := [.long ((a1).toInt64), .long (lN (0)), .long (lN (999999))]) (st := []) C (post := _) (ct_X8_in hw ((a1).toInt64) (lN (0)) (lN (999999)) h g) kX8_54 (by decide) (by decide) rfl rfl (Nat.le_of_ble_eq_true rfl) (D (6, .invokestatic 54, 3) (mg 4 rfl)) rfl (fun v3 H1 G2 hv3 => ?_)
  obtain ⟨rfl, rfl, rfl⟩ := hv3
  show X k w _ 9 [some (.ref (wA w (m))), some (.int (a1)), some (.int (a2)), none, none, none, none, none] [.int (if (lN (0)).toInt ≤ ((a1).toInt64).toInt ∧ ((a1).toInt64).toInt ≤ (lN (999999)).toInt then 1 else 0)] h g
  refine X_if_eq (tgt := 24) C (D (9, .ifCond .eq 15, 3) (mg 5 rfl)) (by decide) (fun q4 => ?_) (fun q4 => ?_)
  · skip
    have q4 : ¬ ((lN (0)).toInt ≤ ((a1).toInt64).toInt ∧ ((a1).toInt64).toInt ≤ (lN (999999)).toInt) := bz0.mp q4
    simp only [i6, pk_lT (n := 0) (by omega), pk_lT (n := 999999) (by omega)] at q4
    refine X_aload_n C 0 (D (24, .aload_n 0, 1) (mg 12 rfl)) rfl rfl ?_
    refine X_bipush (v := (-2 : Int32)) C (D (25, .bipush (-2), 2) (mg 13 rfl)) (by decide) ?_
    refine X_cV (As := [.int ((-2 : Int32))]) (st := []) C (post := _) (m) (by omega) hsm rfl (ct_X8_bad hw hM ((-2 : Int32)) h g) kX8_75 (by decide) (by decide) rfl rfl (Nat.le_of_ble_eq_true rfl) (D (27, .invokevirtual 75, 3) (mg 14 rfl)) rfl (fun v7 H5 G6 hv7 => ?_)
    obtain ⟨rfl, rfl, rfl⟩ := hv7
    show X k w _ 30 [some (.ref (wA w (m))), some (.int (a1)), some (.int (a2)), none, none, none, none, none] [.int ((-2 : Int32))] (rfH h m 0) g
    exact X_iret C (D (30, .ireturn, 1) (mg 15 rfl)) ⟨⟨_, rfl⟩, ⟨fun q i z0 => by have z := z0; unfold SM at z; rw [rfH_ne _ _ _ (by omega)], rU_k (fun i => by rw [rfH_ne _ _ _ (by omega)]) hI.1⟩⟩
  · skip
    have q4 : ((lN (0)).toInt ≤ ((a1).toInt64).toInt ∧ ((a1).toInt64).toInt ≤ (lN (999999)).toInt) := bz1.mp q4
    simp only [i6, pk_lT (n := 0) (by omega), pk_lT (n := 999999) (by omega)] at q4
    obtain ⟨n8, hn8, rfl⟩ := nI_i (x := a1) (n := 1000000) (by omega) (by omega)
    refine X_iload_n C 2 (D (12, .iload_n 2, 1) (mg 6 rfl)) rfl rfl ?_
    refine X_i2l C (D (13, .i2l, 1) (mg 7 rfl)) ?_
    refine X_lconst (v := lN 0) C (D (14, .lconst 0, 1) (mg 8 rfl)) (by decide) ?_
    refine X_ldc2 C (D (15, .ldc2_w 138, 3) (mg 9 rfl)) vX8_138 ?_
    refine X_tl (y := lN (60)) rfl ?_
    refine X_cS (As := [.long ((a2).toInt64), .long (lN (0)), .long (lN (60))]) (st := []) C (post := _) (ct_X8_in hw ((a2).toInt64) (lN (0)) (lN (60)) h g) kX8_54 (by decide) (by decide) rfl rfl (Nat.le_of_ble_eq_true rfl) (D (18, .invokestatic 54, 3) (mg 10 rfl)) rfl (fun v11 H9 G10 hv11 => ?_)
    obtain ⟨rfl, rfl, rfl⟩ := hv11
    show X k w _ 21 [some (.ref (wA w (m))), some (.int (nI (n8))), some (.int (a2)), none, none, none, none, none] [.int (if (lN (0)).toInt ≤ ((a2).toInt64).toInt ∧ ((a2).toInt64).toInt ≤ (lN (60)).toInt then 1 else 0)] h g
    refine X_if_ne (tgt := 31) C (D (21, .ifCond .ne 10, 3) (mg 11 rfl)) (by decide) (fun q12 => ?_) (fun q12 => ?_)
    · skip
      have q12 : ((lN (0)).toInt ≤ ((a2).toInt64).toInt ∧ ((a2).toInt64).toInt ≤ (lN (60)).toInt) := bz1.mp q12
      simp only [i6, pk_lT (n := 0) (by omega), pk_lT (n := 60) (by omega)] at q12
      obtain ⟨n13, hn13, rfl⟩ := nI_i (x := a2) (n := 61) (by omega) (by omega)
      refine X_iload_n C 1 (D (31, .iload_n 1, 1) (mg 16 rfl)) rfl rfl ?_
      refine X_i2l C (D (32, .i2l, 1) (mg 17 rfl)) ?_
      refine X_tl (y := lN (n8)) (nI_l (by omega)) ?_
      refine X_lstore_n (ls' := [some (.ref (wA w (m))), some (.int (nI (n8))), some (.int (nI (n13))), some (.long (lN (n8))), none, none, none, none]) C 3 (D (33, .lstore_n 3, 1) (mg 18 rfl)) rfl (Nat.le_of_ble_eq_true rfl) rfl ?_
      refine X_aload_n C 0 (D (34, .aload_n 0, 1) (mg 19 rfl)) rfl rfl ?_
      refine X_cV (As := []) (st := []) C (post := _) (m) (by omega) hsm rfl (ct_X8_layHand hw hM h g) kX8_149 (by decide) (by decide) rfl rfl (Nat.le_of_ble_eq_true rfl) (D (35, .invokevirtual 149, 3) (mg 20 rfl)) rfl (fun v16 H14 G15 hv16 => ?_)
      obtain ⟨rfl, rfl, rfl⟩ := hv16
      show X k w _ 38 [some (.ref (wA w (m))), some (.int (nI (n8))), some (.int (nI (n13))), some (.long (lN (n8))), none, none, none, none] [] (haH h m) g
      refine X_iconst (v := nI (0)) C (D (38, .iconst 0, 1) (mg 21 rfl)) (by decide) ?_
      refine X_istore (ls' := [some (.ref (wA w (m))), some (.int (nI (n8))), some (.int (nI (n13))), some (.long (lN (n8))), none, some (.int (nI (0))), none, none]) C (D (39, .istore 5, 2) (mg 22 rfl)) (Nat.le_of_ble_eq_true rfl) rfl ?_
      have lp41 : ∀ (nn41 : Nat) (c9 : Nat) (X3 : Nat) (j : Nat) (hp41 : xI) (gp41 : xJ), (j ≤ 60) → (c9 < 25) → (X3 < 2147483648) → (hp41 (m + 5) 28 = nI c9) → (mW m h hp41) → 61 - j ≤ nn41 → X k w (Zq k w (pQ (mW m h))) 41 [some (.ref (wA w (m))), some (.int (nI (n8))), some (.int (nI (n13))), some (.long (lN (X3))), none, some (.int (nI (j))), none, none] [] hp41 gp41 := by
        intro nn41
        induction nn41 with
        | zero => intro c9 X3 j hp41 gp41 hc41_0 hc41_1 hc41_2 hc41_3 hc41_4 hz; exact absurd hz (by omega)
        | succ nn41 ih41 =>
          intro c9 X3 j hp41 gp41 hc41_0 hc41_1 hc41_2 hc41_3 hc41_4 hz41
          obtain ⟨⟨u17, hu17, eu17⟩, ⟨c18, hc18, ec18⟩, -⟩ := (hc41_4).2
          refine X_iload C (D (41, .iload 5, 2) (mg 23 rfl)) rfl ?_
          refine X_iload_n C 2 (D (43, .iload_n 2, 1) (mg 24 rfl)) rfl rfl ?_
          refine X_icmp_ge (tgt := 156) C (D (44, .if_icmp .ge 112, 3) (mg 25 rfl)) (by decide) (fun q19 => ?_) (fun q19 => ?_)
          · skip
            have q19 : (j) ≥ (n13) := by have z := (nI_leI (a := (n13)) (b := (j)) (by omega) (by omega)).mp q19; omega
            refine X_aload_n C 0 (D (156, .aload_n 0, 1) (mg 82 rfl)) rfl rfl ?_
            refine X_get (v := .ref (wA w (m + 5))) C (m) 6 (by omega) hsm rfl rfl (by decide) inX8 fX8_27 rfl (D (157, .getfield 27, 3) (mg 83 rfl)) rfl ?_
            refine X_iconst (v := nI (1)) C (D (160, .iconst 1, 1) (mg 84 rfl)) (by decide) ?_
            refine X_cS (As := [.ref (wA w (m + 5)), .int (nI (1))]) (st := []) C (post := _) (ct_X8_manyAtLeast hw (⟨by omega, hs5, by omega, by omega⟩ : rw56 w (m + 5) 56) (nI (1)) hp41 gp41) kX8_143 (by decide) (by decide) rfl rfl (Nat.le_of_ble_eq_true rfl) (D (161, .invokestatic 143, 3) (mg 85 rfl)) rfl (fun v22 H20 G21 hv22 => ?_)
            obtain ⟨rfl, rfl, rfl⟩ := hv22
            show X k w _ 164 [some (.ref (wA w (m))), some (.int (nI (n8))), some (.int (nI (n13))), some (.long (lN (X3))), none, some (.int (nI (j))), none, none] [.int (nI (cn (fun c => ¬ hiV (hp41 (m + 5) (3 + c)) < nI (1)) 25))] hp41 gp41
            exact X_iret C (D (164, .ireturn, 1) (mg 86 rfl)) ⟨⟨_, rfl⟩, hc41_4⟩
          · skip
            have q19 : (j) < (n13) := by have z : ¬ ((n13) ≤ (j)) := fun u => q19 ((nI_leI (a := (n13)) (b := (j)) (by omega) (by omega)).mpr u); omega
            refine X_lload_n C 3 (D (47, .lload_n 3, 1) (mg 26 rfl)) rfl rfl ?_
            refine X_ldc2 C (D (48, .ldc2_w 220, 3) (mg 27 rfl)) vX8_220 ?_
            refine X_tl (y := lN (1103515245)) rfl ?_
            refine X_lmul C (D (51, .lmul, 1) (mg 28 rfl)) ?_
            refine X_tl (y := lN ((X3) * (1103515245))) (lN_mul (X3) (1103515245)) ?_
            refine X_ldc2 C (D (52, .ldc2_w 222, 3) (mg 29 rfl)) vX8_222 ?_
            refine X_tl (y := lN (12345)) rfl ?_
            refine X_ladd C (D (55, .ladd, 1) (mg 30 rfl)) ?_
            refine X_tl (y := lN (((X3) * (1103515245)) + (12345))) (lN_add ((X3) * (1103515245)) (12345)) ?_
            refine X_ldc2 C (D (56, .ldc2_w 224, 3) (mg 31 rfl)) vX8_224 ?_
            refine X_tl (y := lN (2147483648)) rfl ?_
            refine X_lrem C (D (59, .lrem, 1) (mg 32 rfl)) (by decide) ?_
            refine X_tl (y := lN ((((X3) * (1103515245)) + (12345)) % (2147483648))) (pk_lRem (by omega) (by omega) (by omega)) ?_
            refine X_lstore_n (ls' := [some (.ref (wA w (m))), some (.int (nI (n8))), some (.int (nI (n13))), some (.long (lN ((((X3) * (1103515245)) + (12345)) % (2147483648)))), none, some (.int (nI (j))), none, none]) C 3 (D (60, .lstore_n 3, 1) (mg 33 rfl)) rfl (Nat.le_of_ble_eq_true rfl) rfl ?_
            refine X_lload_n C 3 (D (61, .lload_n 3, 1) (mg 34 rfl)) rfl rfl ?_
            refine X_ldc2 C (D (62, .ldc2_w 226, 3) (mg 35 rfl)) vX8_226 ?_
            refine X_tl (y := lN (1048576)) rfl ?_
            refine X_ldiv C (D (65, .ldiv, 1) (mg 36 rfl)) (by decide) ?_
            refine X_tl (y := lN (((((X3) * (1103515245)) + (12345)) % (2147483648)) / (1048576))) (pk_lDiv (by omega) (by omega) (by omega)) ?_
            refine X_ldc2 C (D (66, .ldc2_w 228, 3) (mg 37 rfl)) vX8_228 ?_
            refine X_tl (y := lN (25)) rfl ?_
            refine X_lrem C (D (69, .lrem, 1) (mg 38 rfl)) (by decide) ?_
            refine X_tl (y := lN ((((((X3) * (1103515245)) + (12345)) % (2147483648)) / (1048576)) % (25))) (pk_lRem (by omega) (by omega) (by omega)) ?_
            refine X_l2i C (D (70, .l2i, 1) (mg 39 rfl)) ?_
            refine X_ti (y := nI ((((((X3) * (1103515245)) + (12345)) % (2147483648)) / (1048576)) % (25))) (lN_i _) ?_
            refine X_istore (ls' := [some (.ref (wA w (m))), some (.int (nI (n8))), some (.int (nI (n13))), some (.long (lN ((((X3) * (1103515245)) + (12345)) % (2147483648)))), none, some (.int (nI (j))), some (.int (nI ((((((X3) * (1103515245)) + (12345)) % (2147483648)) / (1048576)) % (25)))), none]) C (D (71, .istore 6, 2) (mg 40 rfl)) (Nat.le_of_ble_eq_true rfl) rfl ?_
            refine X_lload_n C 3 (D (73, .lload_n 3, 1) (mg 41 rfl)) rfl rfl ?_
            refine X_ldc2 C (D (74, .ldc2_w 230, 3) (mg 42 rfl)) vX8_230 ?_
            refine X_tl (y := lN (16384)) rfl ?_
            refine X_ldiv C (D (77, .ldiv, 1) (mg 43 rfl)) (by decide) ?_
            refine X_tl (y := lN (((((X3) * (1103515245)) + (12345)) % (2147483648)) / (16384))) (pk_lDiv (by omega) (by omega) (by omega)) ?_
            refine X_ldc2 C (D (78, .ldc2_w 60, 3) (mg 44 rfl)) vX8_60 ?_
            refine X_tl (y := lN (4)) rfl ?_
            refine X_lrem C (D (81, .lrem, 1) (mg 45 rfl)) (by decide) ?_
            refine X_tl (y := lN ((((((X3) * (1103515245)) + (12345)) % (2147483648)) / (16384)) % (4))) (pk_lRem (by omega) (by omega) (by omega)) ?_
            refine X_l2i C (D (82, .l2i, 1) (mg 46 rfl)) ?_
            refine X_ti (y := nI ((((((X3) * (1103515245)) + (12345)) % (2147483648)) / (16384)) % (4))) (lN_i _) ?_
            refine X_istore (ls' := [some (.ref (wA w (m))), some (.int (nI (n8))), some (.int (nI (n13))), some (.long (lN ((((X3) * (1103515245)) + (12345)) % (2147483648)))), none, some (.int (nI (j))), some (.int (nI ((((((X3) * (1103515245)) + (12345)) % (2147483648)) / (1048576)) % (25)))), some (.int (nI ((((((X3) * (1103515245)) + (12345)) % (2147483648)) / (16384)) % (4))))]) C (D (83, .istore 7, 2) (mg 47 rfl)) (Nat.le_of_ble_eq_true rfl) rfl ?_
            refine X_aload_n C 0 (D (85, .aload_n 0, 1) (mg 48 rfl)) rfl rfl ?_
            refine X_get (v := .ref (wA w (m + 5))) C (m) 6 (by omega) hsm rfl rfl (by decide) inX8 fX8_27 rfl (D (86, .getfield 27, 3) (mg 49 rfl)) rfl ?_
            refine X_iload C (D (89, .iload 6, 2) (mg 50 rfl)) rfl ?_
            refine X_cS (As := [.ref (wA w (m + 5)), .int (nI ((((((X3) * (1103515245)) + (12345)) % (2147483648)) / (1048576)) % (25)))]) (st := []) C (post := _) (ct_X8_lies hw (⟨by omega, hs5, by omega, by omega⟩ : rw56 w (m + 5) 56) (by omega) hp41 gp41) kX8_64 (by decide) (by decide) rfl rfl (Nat.le_of_ble_eq_true rfl) (D (91, .invokestatic 64, 3) (mg 51 rfl)) rfl (fun v25 H23 G24 hv25 => ?_)
            obtain ⟨rfl, rfl, rfl⟩ := hv25
            show X k w _ 94 [some (.ref (wA w (m))), some (.int (nI (n8))), some (.int (nI (n13))), some (.long (lN ((((X3) * (1103515245)) + (12345)) % (2147483648)))), none, some (.int (nI (j))), some (.int (nI ((((((X3) * (1103515245)) + (12345)) % (2147483648)) / (1048576)) % (25)))), some (.int (nI ((((((X3) * (1103515245)) + (12345)) % (2147483648)) / (16384)) % (4))))] [.int (if ¬ hp41 (m + 5) (3 + ((((((X3) * (1103515245)) + (12345)) % (2147483648)) / (1048576)) % (25))) = 0 then 1 else 0)] hp41 gp41
            refine X_if_ne (tgt := 118) C (D (94, .ifCond .ne 24, 3) (mg 52 rfl)) (by decide) (fun q26 => ?_) (fun q26 => ?_)
            · skip
              have q26 : (¬ hp41 (m + 5) (3 + ((((((X3) * (1103515245)) + (12345)) % (2147483648)) / (1048576)) % (25))) = 0) := bz1.mp q26
              refine X_aload_n C 0 (D (118, .aload_n 0, 1) (mg 65 rfl)) rfl rfl ?_
              refine X_get (v := .ref (wA w (m + 5))) C (m) 6 (by omega) hsm rfl rfl (by decide) inX8 fX8_27 rfl (D (119, .getfield 27, 3) (mg 66 rfl)) rfl ?_
              refine X_bipush (v := nI (28)) C (D (122, .bipush 28, 2) (mg 67 rfl)) (by decide) ?_
              refine X_iald (v := hp41 (m + 5) (28)) C (m + 5) (by omega) hs5 (vp_in_nI (by omega) (by omega)) (D (124, .iaload, 1) (mg 68 rfl)) (by rw [nI_clamp (by omega)]) ?_
              refine X_ti (y := nI (c9)) (hc41_3) ?_
              refine X_iload C (D (125, .iload 7, 2) (mg 69 rfl)) rfl ?_
              refine X_cS (As := [.int (nI (c9)), .int (nI ((((((X3) * (1103515245)) + (12345)) % (2147483648)) / (16384)) % (4)))]) (st := []) C (post := _) (ct_X8_beside hw (j := c9) (by omega) (nI ((((((X3) * (1103515245)) + (12345)) % (2147483648)) / (16384)) % (4))) hp41 gp41) kX8_110 (by decide) (by decide) rfl rfl (Nat.le_of_ble_eq_true rfl) (D (127, .invokestatic 110, 3) (mg 70 rfl)) rfl (fun v29 H27 G28 hv29 => ?_)
              obtain ⟨rfl, rfl, rfl⟩ := hv29
              obtain ⟨y30, ey30⟩ : ∃ y, y = bsA (c9) (nI ((((((X3) * (1103515245)) + (12345)) % (2147483648)) / (16384)) % (4))) := ⟨_, rfl⟩
              have hy30 := bsA_alt (j := c9) (by omega) (nI ((((((X3) * (1103515245)) + (12345)) % (2147483648)) / (16384)) % (4)))
              rw [← ey30] at hy30
              rw [← ey30]
              show X k w _ 130 [some (.ref (wA w (m))), some (.int (nI (n8))), some (.int (nI (n13))), some (.long (lN ((((X3) * (1103515245)) + (12345)) % (2147483648)))), none, some (.int (nI (j))), some (.int (nI ((((((X3) * (1103515245)) + (12345)) % (2147483648)) / (1048576)) % (25)))), some (.int (nI ((((((X3) * (1103515245)) + (12345)) % (2147483648)) / (16384)) % (4))))] [.int (y30)] hp41 gp41
              refine X_iconst (v := (-1 : Int32)) C (D (130, .iconst (-1), 1) (mg 71 rfl)) (by decide) ?_
              refine X_icmp_eq (tgt := 143) C (D (131, .if_icmp .eq 12, 3) (mg 72 rfl)) (by decide) (fun q31 => ?_) (fun q31 => ?_)
              · skip
                subst q31
                refine X_aload_n C 0 (D (143, .aload_n 0, 1) (mg 77 rfl)) rfl rfl ?_
                refine X_get (v := .ref (wA w (m + 5))) C (m) 6 (by omega) hsm rfl rfl (by decide) inX8 fX8_27 rfl (D (144, .getfield 27, 3) (mg 78 rfl)) rfl ?_
                refine X_cS (As := [.ref (wA w (m + 5))]) (st := []) C (post := _) (ct_X8_goWeek hw (⟨by omega, hs5, by omega, by omega⟩ : rw56 w (m + 5) 56) hp41 gp41) kX8_121 (by decide) (by decide) rfl rfl (Nat.le_of_ble_eq_true rfl) (D (147, .invokestatic 121, 3) (mg 79 rfl)) rfl (fun v34 H32 G33 hv34 => ?_)
                obtain ⟨rfl, rfl, rfl⟩ := hv34
                show X k w _ 150 [some (.ref (wA w (m))), some (.int (nI (n8))), some (.int (nI (n13))), some (.long (lN ((((X3) * (1103515245)) + (12345)) % (2147483648)))), none, some (.int (nI (j))), some (.int (nI ((((((X3) * (1103515245)) + (12345)) % (2147483648)) / (1048576)) % (25)))), some (.int (nI ((((((X3) * (1103515245)) + (12345)) % (2147483648)) / (16384)) % (4))))] [] (wkH hp41 (m + 5)) gp41
                refine X_iinc (v := nI (j + 1)) (ls' := [some (.ref (wA w (m))), some (.int (nI (n8))), some (.int (nI (n13))), some (.long (lN ((((X3) * (1103515245)) + (12345)) % (2147483648)))), none, some (.int (nI (j + 1))), some (.int (nI ((((((X3) * (1103515245)) + (12345)) % (2147483648)) / (1048576)) % (25)))), some (.int (nI ((((((X3) * (1103515245)) + (12345)) % (2147483648)) / (16384)) % (4))))]) C (D (150, .iinc 5 1, 3) (mg 80 rfl)) rfl (nI_add (j) 1) rfl ?_
                refine X_goto (tgt := 41) C (D (153, .goto (-112), 3) (mg 81 rfl)) (by decide) ?_
                refine X_los (ls' := [some (.ref (wA w (m))), some (.int (nI (n8))), some (.int (nI (n13))), some (.long (lN ((((X3) * (1103515245)) + (12345)) % (2147483648)))), none, some (.int (nI (j + 1))), none, none]) (by simp [lsub]) ?_
                refine X_eq (ls' := [some (.ref (wA w (m))), some (.int (nI (n8))), some (.int (nI (n13))), some (.long (lN ((((X3) * (1103515245)) + (12345)) % (2147483648)))), none, some (.int (nI (j + 1))), none, none]) (st' := []) (h' := (wkH hp41 (m + 5))) (g' := gp41) rfl rfl rfl rfl ?_
                exact ih41 (c9) ((((X3) * (1103515245)) + (12345)) % (2147483648)) (j + 1) ((wkH hp41 (m + 5))) (gp41) (by omega) (by omega) (by omega) (((wkH_ne _ _ (by omega))).trans hc41_3) ⟨fun q i z0 => by have z := z0; unfold SM at z; rw [wkH_ne _ _ (by omega)]; exact (hc41_4).1 q i z0, rU_k (fun i => by rw [wkH_ne _ _ (by omega)]) (hc41_4).2⟩ (by omega)
              · skip
                obtain ⟨c35, hc35, rfl⟩ := hy30.resolve_left q31
                refine X_aload_n C 0 (D (134, .aload_n 0, 1) (mg 73 rfl)) rfl rfl ?_
                refine X_get (v := .ref (wA w (m + 5))) C (m) 6 (by omega) hsm rfl rfl (by decide) inX8 fX8_27 rfl (D (135, .getfield 27, 3) (mg 74 rfl)) rfl ?_
                refine X_iload C (D (138, .iload 7, 2) (mg 75 rfl)) rfl ?_
                refine X_cS (As := [.ref (wA w (m + 5)), .int (nI ((((((X3) * (1103515245)) + (12345)) % (2147483648)) / (16384)) % (4)))]) (st := []) C (post := _) (ct_X8_goStep hw (⟨by omega, hs5, by omega, by omega⟩ : rw56 w (m + 5) 56) (j := c9) (c := c35) (by omega) (by omega) (nI ((((((X3) * (1103515245)) + (12345)) % (2147483648)) / (16384)) % (4))) hp41 gp41 (hc41_3) ey30.symm) kX8_134 (by decide) (by decide) rfl rfl (Nat.le_of_ble_eq_true rfl) (D (140, .invokestatic 134, 3) (mg 76 rfl)) rfl (fun v38 H36 G37 hv38 => ?_)
                obtain ⟨rfl, rfl, rfl⟩ := hv38
                show X k w _ 143 [some (.ref (wA w (m))), some (.int (nI (n8))), some (.int (nI (n13))), some (.long (lN ((((X3) * (1103515245)) + (12345)) % (2147483648)))), none, some (.int (nI (j))), some (.int (nI ((((((X3) * (1103515245)) + (12345)) % (2147483648)) / (1048576)) % (25)))), some (.int (nI ((((((X3) * (1103515245)) + (12345)) % (2147483648)) / (16384)) % (4))))] [] (stH hp41 (m + 5) (c35)) gp41
                refine X_aload_n C 0 (D (143, .aload_n 0, 1) (mg 77 rfl)) rfl rfl ?_
                refine X_get (v := .ref (wA w (m + 5))) C (m) 6 (by omega) hsm rfl rfl (by decide) inX8 fX8_27 rfl (D (144, .getfield 27, 3) (mg 78 rfl)) rfl ?_
                refine X_cS (As := [.ref (wA w (m + 5))]) (st := []) C (post := _) (ct_X8_goWeek hw (⟨by omega, hs5, by omega, by omega⟩ : rw56 w (m + 5) 56) (stH hp41 (m + 5) (c35)) gp41) kX8_121 (by decide) (by decide) rfl rfl (Nat.le_of_ble_eq_true rfl) (D (147, .invokestatic 121, 3) (mg 79 rfl)) rfl (fun v41 H39 G40 hv41 => ?_)
                obtain ⟨rfl, rfl, rfl⟩ := hv41
                show X k w _ 150 [some (.ref (wA w (m))), some (.int (nI (n8))), some (.int (nI (n13))), some (.long (lN ((((X3) * (1103515245)) + (12345)) % (2147483648)))), none, some (.int (nI (j))), some (.int (nI ((((((X3) * (1103515245)) + (12345)) % (2147483648)) / (1048576)) % (25)))), some (.int (nI ((((((X3) * (1103515245)) + (12345)) % (2147483648)) / (16384)) % (4))))] [] (wkH (stH hp41 (m + 5) (c35)) (m + 5)) gp41
                refine X_iinc (v := nI (j + 1)) (ls' := [some (.ref (wA w (m))), some (.int (nI (n8))), some (.int (nI (n13))), some (.long (lN ((((X3) * (1103515245)) + (12345)) % (2147483648)))), none, some (.int (nI (j + 1))), some (.int (nI ((((((X3) * (1103515245)) + (12345)) % (2147483648)) / (1048576)) % (25)))), some (.int (nI ((((((X3) * (1103515245)) + (12345)) % (2147483648)) / (16384)) % (4))))]) C (D (150, .iinc 5 1, 3) (mg 80 rfl)) rfl (nI_add (j) 1) rfl ?_
                refine X_goto (tgt := 41) C (D (153, .goto (-112), 3) (mg 81 rfl)) (by decide) ?_
                refine X_los (ls' := [some (.ref (wA w (m))), some (.int (nI (n8))), some (.int (nI (n13))), some (.long (lN ((((X3) * (1103515245)) + (12345)) % (2147483648)))), none, some (.int (nI (j + 1))), none, none]) (by simp [lsub]) ?_
                refine X_eq (ls' := [some (.ref (wA w (m))), some (.int (nI (n8))), some (.int (nI (n13))), some (.long (lN ((((X3) * (1103515245)) + (12345)) % (2147483648)))), none, some (.int (nI (j + 1))), none, none]) (st' := []) (h' := (wkH (stH hp41 (m + 5) (c35)) (m + 5))) (g' := gp41) rfl rfl rfl rfl ?_
                exact ih41 (c35) ((((X3) * (1103515245)) + (12345)) % (2147483648)) (j + 1) ((wkH (stH hp41 (m + 5) (c35)) (m + 5))) (gp41) (by omega) (by omega) (by omega) (((wkH_ne _ _ (by omega))).trans (st_28 _ _ _ (by omega))) ⟨fun q i z0 => by have z := z0; unfold SM at z; rw [wkH_ne _ _ (by omega), stH_ne _ _ _ (by omega)]; exact (hc41_4).1 q i z0, rU_k (fun i => by rw [wkH_ne _ _ (by omega), stH_ne _ _ _ (by omega)]) (hc41_4).2⟩ (by omega)
            · skip
              have q26 : ¬ (¬ hp41 (m + 5) (3 + ((((((X3) * (1103515245)) + (12345)) % (2147483648)) / (1048576)) % (25))) = 0) := bz0.mp q26
              refine X_aload_n C 0 (D (97, .aload_n 0, 1) (mg 53 rfl)) rfl rfl ?_
              refine X_get (v := .ref (wA w (m + 5))) C (m) 6 (by omega) hsm rfl rfl (by decide) inX8 fX8_27 rfl (D (98, .getfield 27, 3) (mg 54 rfl)) rfl ?_
              refine X_iload C (D (101, .iload 6, 2) (mg 55 rfl)) rfl ?_
              refine X_lload_n C 3 (D (103, .lload_n 3, 1) (mg 56 rfl)) rfl rfl ?_
              refine X_ldc2 C (D (104, .ldc2_w 232, 3) (mg 57 rfl)) vX8_232 ?_
              refine X_tl (y := lN (65536)) rfl ?_
              refine X_ldiv C (D (107, .ldiv, 1) (mg 58 rfl)) (by decide) ?_
              refine X_tl (y := lN (((((X3) * (1103515245)) + (12345)) % (2147483648)) / (65536))) (pk_lDiv (by omega) (by omega) (by omega)) ?_
              refine X_ldc2 C (D (108, .ldc2_w 234, 3) (mg 59 rfl)) vX8_234 ?_
              refine X_tl (y := lN (6)) rfl ?_
              refine X_lrem C (D (111, .lrem, 1) (mg 60 rfl)) (by decide) ?_
              refine X_tl (y := lN ((((((X3) * (1103515245)) + (12345)) % (2147483648)) / (65536)) % (6))) (pk_lRem (by omega) (by omega) (by omega)) ?_
              refine X_l2i C (D (112, .l2i, 1) (mg 61 rfl)) ?_
              refine X_ti (y := nI ((((((X3) * (1103515245)) + (12345)) % (2147483648)) / (65536)) % (6))) (lN_i _) ?_
              refine X_iconst (v := nI (0)) C (D (113, .iconst 0, 1) (mg 62 rfl)) (by decide) ?_
              refine X_iconst (v := nI (0)) C (D (114, .iconst 0, 1) (mg 63 rfl)) (by decide) ?_
              refine X_cS (As := [.ref (wA w (m + 5)), .int (nI ((((((X3) * (1103515245)) + (12345)) % (2147483648)) / (1048576)) % (25))), .int (nI ((((((X3) * (1103515245)) + (12345)) % (2147483648)) / (65536)) % (6))), .int (nI (0)), .int (nI (0))]) (st := []) C (post := _) (ct_X8_lay hw (⟨by omega, hs5, by omega, by omega⟩ : rw56 w (m + 5) 56) (by omega) (nI ((((((X3) * (1103515245)) + (12345)) % (2147483648)) / (65536)) % (6))) (nI (0)) (nI (0)) hp41 gp41) kX8_117 (by decide) (by decide) rfl rfl (Nat.le_of_ble_eq_true rfl) (D (115, .invokestatic 117, 3) (mg 64 rfl)) rfl (fun v44 H42 G43 hv44 => ?_)
              obtain ⟨rfl, rfl, rfl⟩ := hv44
              show X k w _ 118 [some (.ref (wA w (m))), some (.int (nI (n8))), some (.int (nI (n13))), some (.long (lN ((((X3) * (1103515245)) + (12345)) % (2147483648)))), none, some (.int (nI (j))), some (.int (nI ((((((X3) * (1103515245)) + (12345)) % (2147483648)) / (1048576)) % (25)))), some (.int (nI ((((((X3) * (1103515245)) + (12345)) % (2147483648)) / (16384)) % (4))))] [] (u2 hp41 (m + 5) (3 + ((((((X3) * (1103515245)) + (12345)) % (2147483648)) / (1048576)) % (25))) (mV (nI ((((((X3) * (1103515245)) + (12345)) % (2147483648)) / (65536)) % (6))) (nI (0)) (nI (0)))) gp41
              refine X_aload_n C 0 (D (118, .aload_n 0, 1) (mg 65 rfl)) rfl rfl ?_
              refine X_get (v := .ref (wA w (m + 5))) C (m) 6 (by omega) hsm rfl rfl (by decide) inX8 fX8_27 rfl (D (119, .getfield 27, 3) (mg 66 rfl)) rfl ?_
              refine X_bipush (v := nI (28)) C (D (122, .bipush 28, 2) (mg 67 rfl)) (by decide) ?_
              refine X_iald (v := (u2 hp41 (m + 5) (3 + ((((((X3) * (1103515245)) + (12345)) % (2147483648)) / (1048576)) % (25))) (mV (nI ((((((X3) * (1103515245)) + (12345)) % (2147483648)) / (65536)) % (6))) (nI (0)) (nI (0)))) (m + 5) (28)) C (m + 5) (by omega) hs5 (vp_in_nI (by omega) (by omega)) (D (124, .iaload, 1) (mg 68 rfl)) (by rw [nI_clamp (by omega)]) ?_
              refine X_ti (y := nI (c9)) (((u2_i _ _ _ _ (by omega))).trans hc41_3) ?_
              refine X_iload C (D (125, .iload 7, 2) (mg 69 rfl)) rfl ?_
              refine X_cS (As := [.int (nI (c9)), .int (nI ((((((X3) * (1103515245)) + (12345)) % (2147483648)) / (16384)) % (4)))]) (st := []) C (post := _) (ct_X8_beside hw (j := c9) (by omega) (nI ((((((X3) * (1103515245)) + (12345)) % (2147483648)) / (16384)) % (4))) (u2 hp41 (m + 5) (3 + ((((((X3) * (1103515245)) + (12345)) % (2147483648)) / (1048576)) % (25))) (mV (nI ((((((X3) * (1103515245)) + (12345)) % (2147483648)) / (65536)) % (6))) (nI (0)) (nI (0)))) gp41) kX8_110 (by decide) (by decide) rfl rfl (Nat.le_of_ble_eq_true rfl) (D (127, .invokestatic 110, 3) (mg 70 rfl)) rfl (fun v47 H45 G46 hv47 => ?_)
              obtain ⟨rfl, rfl, rfl⟩ := hv47
              obtain ⟨y48, ey48⟩ : ∃ y, y = bsA (c9) (nI ((((((X3) * (1103515245)) + (12345)) % (2147483648)) / (16384)) % (4))) := ⟨_, rfl⟩
              have hy48 := bsA_alt (j := c9) (by omega) (nI ((((((X3) * (1103515245)) + (12345)) % (2147483648)) / (16384)) % (4)))
              rw [← ey48] at hy48
              rw [← ey48]
              show X k w _ 130 [some (.ref (wA w (m))), some (.int (nI (n8))), some (.int (nI (n13))), some (.long (lN ((((X3) * (1103515245)) + (12345)) % (2147483648)))), none, some (.int (nI (j))), some (.int (nI ((((((X3) * (1103515245)) + (12345)) % (2147483648)) / (1048576)) % (25)))), some (.int (nI ((((((X3) * (1103515245)) + (12345)) % (2147483648)) / (16384)) % (4))))] [.int (y48)] (u2 hp41 (m + 5) (3 + ((((((X3) * (1103515245)) + (12345)) % (2147483648)) / (1048576)) % (25))) (mV (nI ((((((X3) * (1103515245)) + (12345)) % (2147483648)) / (65536)) % (6))) (nI (0)) (nI (0)))) gp41
              refine X_iconst (v := (-1 : Int32)) C (D (130, .iconst (-1), 1) (mg 71 rfl)) (by decide) ?_
              refine X_icmp_eq (tgt := 143) C (D (131, .if_icmp .eq 12, 3) (mg 72 rfl)) (by decide) (fun q49 => ?_) (fun q49 => ?_)
              · skip
                subst q49
                refine X_aload_n C 0 (D (143, .aload_n 0, 1) (mg 77 rfl)) rfl rfl ?_
                refine X_get (v := .ref (wA w (m + 5))) C (m) 6 (by omega) hsm rfl rfl (by decide) inX8 fX8_27 rfl (D (144, .getfield 27, 3) (mg 78 rfl)) rfl ?_
                refine X_cS (As := [.ref (wA w (m + 5))]) (st := []) C (post := _) (ct_X8_goWeek hw (⟨by omega, hs5, by omega, by omega⟩ : rw56 w (m + 5) 56) (u2 hp41 (m + 5) (3 + ((((((X3) * (1103515245)) + (12345)) % (2147483648)) / (1048576)) % (25))) (mV (nI ((((((X3) * (1103515245)) + (12345)) % (2147483648)) / (65536)) % (6))) (nI (0)) (nI (0)))) gp41) kX8_121 (by decide) (by decide) rfl rfl (Nat.le_of_ble_eq_true rfl) (D (147, .invokestatic 121, 3) (mg 79 rfl)) rfl (fun v52 H50 G51 hv52 => ?_)
                obtain ⟨rfl, rfl, rfl⟩ := hv52
                show X k w _ 150 [some (.ref (wA w (m))), some (.int (nI (n8))), some (.int (nI (n13))), some (.long (lN ((((X3) * (1103515245)) + (12345)) % (2147483648)))), none, some (.int (nI (j))), some (.int (nI ((((((X3) * (1103515245)) + (12345)) % (2147483648)) / (1048576)) % (25)))), some (.int (nI ((((((X3) * (1103515245)) + (12345)) % (2147483648)) / (16384)) % (4))))] [] (wkH (u2 hp41 (m + 5) (3 + ((((((X3) * (1103515245)) + (12345)) % (2147483648)) / (1048576)) % (25))) (mV (nI ((((((X3) * (1103515245)) + (12345)) % (2147483648)) / (65536)) % (6))) (nI (0)) (nI (0)))) (m + 5)) gp41
                refine X_iinc (v := nI (j + 1)) (ls' := [some (.ref (wA w (m))), some (.int (nI (n8))), some (.int (nI (n13))), some (.long (lN ((((X3) * (1103515245)) + (12345)) % (2147483648)))), none, some (.int (nI (j + 1))), some (.int (nI ((((((X3) * (1103515245)) + (12345)) % (2147483648)) / (1048576)) % (25)))), some (.int (nI ((((((X3) * (1103515245)) + (12345)) % (2147483648)) / (16384)) % (4))))]) C (D (150, .iinc 5 1, 3) (mg 80 rfl)) rfl (nI_add (j) 1) rfl ?_
                refine X_goto (tgt := 41) C (D (153, .goto (-112), 3) (mg 81 rfl)) (by decide) ?_
                refine X_los (ls' := [some (.ref (wA w (m))), some (.int (nI (n8))), some (.int (nI (n13))), some (.long (lN ((((X3) * (1103515245)) + (12345)) % (2147483648)))), none, some (.int (nI (j + 1))), none, none]) (by simp [lsub]) ?_
                refine X_eq (ls' := [some (.ref (wA w (m))), some (.int (nI (n8))), some (.int (nI (n13))), some (.long (lN ((((X3) * (1103515245)) + (12345)) % (2147483648)))), none, some (.int (nI (j + 1))), none, none]) (st' := []) (h' := (wkH (u2 hp41 (m + 5) (3 + ((((((X3) * (1103515245)) + (12345)) % (2147483648)) / (1048576)) % (25))) (mV (nI ((((((X3) * (1103515245)) + (12345)) % (2147483648)) / (65536)) % (6))) (nI (0)) (nI (0)))) (m + 5))) (g' := gp41) rfl rfl rfl rfl ?_
                exact ih41 (c9) ((((X3) * (1103515245)) + (12345)) % (2147483648)) (j + 1) ((wkH (u2 hp41 (m + 5) (3 + ((((((X3) * (1103515245)) + (12345)) % (2147483648)) / (1048576)) % (25))) (mV (nI ((((((X3) * (1103515245)) + (12345)) % (2147483648)) / (65536)) % (6))) (nI (0)) (nI (0)))) (m + 5))) (gp41) (by omega) (by omega) (by omega) ((((wkH_ne _ _ (by omega))).trans (u2_i _ _ _ _ (by omega))).trans hc41_3) ⟨fun q i z0 => by have z := z0; unfold SM at z; rw [wkH_ne _ _ (by omega), u2_ne _ _ _ _ (by omega)]; exact (hc41_4).1 q i z0, rU_k (fun i => by rw [wkH_ne _ _ (by omega), u2_ne _ _ _ _ (by omega)]) (hc41_4).2⟩ (by omega)
              · skip
                obtain ⟨c53, hc53, rfl⟩ := hy48.resolve_left q49
                refine X_aload_n C 0 (D (134, .aload_n 0, 1) (mg 73 rfl)) rfl rfl ?_
                refine X_get (v := .ref (wA w (m + 5))) C (m) 6 (by omega) hsm rfl rfl (by decide) inX8 fX8_27 rfl (D (135, .getfield 27, 3) (mg 74 rfl)) rfl ?_
                refine X_iload C (D (138, .iload 7, 2) (mg 75 rfl)) rfl ?_
                refine X_cS (As := [.ref (wA w (m + 5)), .int (nI ((((((X3) * (1103515245)) + (12345)) % (2147483648)) / (16384)) % (4)))]) (st := []) C (post := _) (ct_X8_goStep hw (⟨by omega, hs5, by omega, by omega⟩ : rw56 w (m + 5) 56) (j := c9) (c := c53) (by omega) (by omega) (nI ((((((X3) * (1103515245)) + (12345)) % (2147483648)) / (16384)) % (4))) (u2 hp41 (m + 5) (3 + ((((((X3) * (1103515245)) + (12345)) % (2147483648)) / (1048576)) % (25))) (mV (nI ((((((X3) * (1103515245)) + (12345)) % (2147483648)) / (65536)) % (6))) (nI (0)) (nI (0)))) gp41 (((u2_i _ _ _ _ (by omega))).trans hc41_3) ey48.symm) kX8_134 (by decide) (by decide) rfl rfl (Nat.le_of_ble_eq_true rfl) (D (140, .invokestatic 134, 3) (mg 76 rfl)) rfl (fun v56 H54 G55 hv56 => ?_)
                obtain ⟨rfl, rfl, rfl⟩ := hv56
                show X k w _ 143 [some (.ref (wA w (m))), some (.int (nI (n8))), some (.int (nI (n13))), some (.long (lN ((((X3) * (1103515245)) + (12345)) % (2147483648)))), none, some (.int (nI (j))), some (.int (nI ((((((X3) * (1103515245)) + (12345)) % (2147483648)) / (1048576)) % (25)))), some (.int (nI ((((((X3) * (1103515245)) + (12345)) % (2147483648)) / (16384)) % (4))))] [] (stH (u2 hp41 (m + 5) (3 + ((((((X3) * (1103515245)) + (12345)) % (2147483648)) / (1048576)) % (25))) (mV (nI ((((((X3) * (1103515245)) + (12345)) % (2147483648)) / (65536)) % (6))) (nI (0)) (nI (0)))) (m + 5) (c53)) gp41
                refine X_aload_n C 0 (D (143, .aload_n 0, 1) (mg 77 rfl)) rfl rfl ?_
                refine X_get (v := .ref (wA w (m + 5))) C (m) 6 (by omega) hsm rfl rfl (by decide) inX8 fX8_27 rfl (D (144, .getfield 27, 3) (mg 78 rfl)) rfl ?_
                refine X_cS (As := [.ref (wA w (m + 5))]) (st := []) C (post := _) (ct_X8_goWeek hw (⟨by omega, hs5, by omega, by omega⟩ : rw56 w (m + 5) 56) (stH (u2 hp41 (m + 5) (3 + ((((((X3) * (1103515245)) + (12345)) % (2147483648)) / (1048576)) % (25))) (mV (nI ((((((X3) * (1103515245)) + (12345)) % (2147483648)) / (65536)) % (6))) (nI (0)) (nI (0)))) (m + 5) (c53)) gp41) kX8_121 (by decide) (by decide) rfl rfl (Nat.le_of_ble_eq_true rfl) (D (147, .invokestatic 121, 3) (mg 79 rfl)) rfl (fun v59 H57 G58 hv59 => ?_)
                obtain ⟨rfl, rfl, rfl⟩ := hv59
                show X k w _ 150 [some (.ref (wA w (m))), some (.int (nI (n8))), some (.int (nI (n13))), some (.long (lN ((((X3) * (1103515245)) + (12345)) % (2147483648)))), none, some (.int (nI (j))), some (.int (nI ((((((X3) * (1103515245)) + (12345)) % (2147483648)) / (1048576)) % (25)))), some (.int (nI ((((((X3) * (1103515245)) + (12345)) % (2147483648)) / (16384)) % (4))))] [] (wkH (stH (u2 hp41 (m + 5) (3 + ((((((X3) * (1103515245)) + (12345)) % (2147483648)) / (1048576)) % (25))) (mV (nI ((((((X3) * (1103515245)) + (12345)) % (2147483648)) / (65536)) % (6))) (nI (0)) (nI (0)))) (m + 5) (c53)) (m + 5)) gp41
                refine X_iinc (v := nI (j + 1)) (ls' := [some (.ref (wA w (m))), some (.int (nI (n8))), some (.int (nI (n13))), some (.long (lN ((((X3) * (1103515245)) + (12345)) % (2147483648)))), none, some (.int (nI (j + 1))), some (.int (nI ((((((X3) * (1103515245)) + (12345)) % (2147483648)) / (1048576)) % (25)))), some (.int (nI ((((((X3) * (1103515245)) + (12345)) % (2147483648)) / (16384)) % (4))))]) C (D (150, .iinc 5 1, 3) (mg 80 rfl)) rfl (nI_add (j) 1) rfl ?_
                refine X_goto (tgt := 41) C (D (153, .goto (-112), 3) (mg 81 rfl)) (by decide) ?_
                refine X_los (ls' := [some (.ref (wA w (m))), some (.int (nI (n8))), some (.int (nI (n13))), some (.long (lN ((((X3) * (1103515245)) + (12345)) % (2147483648)))), none, some (.int (nI (j + 1))), none, none]) (by simp [lsub]) ?_
                refine X_eq (ls' := [some (.ref (wA w (m))), some (.int (nI (n8))), some (.int (nI (n13))), some (.long (lN ((((X3) * (1103515245)) + (12345)) % (2147483648)))), none, some (.int (nI (j + 1))), none, none]) (st' := []) (h' := (wkH (stH (u2 hp41 (m + 5) (3 + ((((((X3) * (1103515245)) + (12345)) % (2147483648)) / (1048576)) % (25))) (mV (nI ((((((X3) * (1103515245)) + (12345)) % (2147483648)) / (65536)) % (6))) (nI (0)) (nI (0)))) (m + 5) (c53)) (m + 5))) (g' := gp41) rfl rfl rfl rfl ?_
                exact ih41 (c53) ((((X3) * (1103515245)) + (12345)) % (2147483648)) (j + 1) ((wkH (stH (u2 hp41 (m + 5) (3 + ((((((X3) * (1103515245)) + (12345)) % (2147483648)) / (1048576)) % (25))) (mV (nI ((((((X3) * (1103515245)) + (12345)) % (2147483648)) / (65536)) % (6))) (nI (0)) (nI (0)))) (m + 5) (c53)) (m + 5))) (gp41) (by omega) (by omega) (by omega) (((wkH_ne _ _ (by omega))).trans (st_28 _ _ _ (by omega))) ⟨fun q i z0 => by have z := z0; unfold SM at z; rw [wkH_ne _ _ (by omega), stH_ne _ _ _ (by omega), u2_ne _ _ _ _ (by omega)]; exact (hc41_4).1 q i z0, rU_k (fun i => by rw [wkH_ne _ _ (by omega), stH_ne _ _ _ (by omega), u2_ne _ _ _ _ (by omega)]) (hc41_4).2⟩ (by omega)
      refine X_eq (ls' := [some (.ref (wA w (m))), some (.int (nI (n8))), some (.int (nI (n13))), some (.long (lN (n8))), none, some (.int (nI (0))), none, none]) (st' := []) (h' := (haH h m)) (g' := g) rfl rfl rfl rfl ?_
      exact lp41 _ (c0) (n8) (0) ((haH h m)) (g) (by omega) (by omega) (by omega) (((haH_at _ _ (by omega))).trans hat) ⟨fun q i z0 => by have z := z0; unfold SM at z; rw [haH_ne _ _ (by omega)], rU_k (fun i => by rw [haH_ne _ _ (by omega)]) hI.1⟩ (Nat.le_refl _)
    · skip
      have q12 : ¬ ((lN (0)).toInt ≤ ((a2).toInt64).toInt ∧ ((a2).toInt64).toInt ≤ (lN (60)).toInt) := bz0.mp q12
      simp only [i6, pk_lT (n := 0) (by omega), pk_lT (n := 60) (by omega)] at q12
      refine X_aload_n C 0 (D (24, .aload_n 0, 1) (mg 12 rfl)) rfl rfl ?_
      refine X_bipush (v := (-2 : Int32)) C (D (25, .bipush (-2), 2) (mg 13 rfl)) (by decide) ?_
      refine X_cV (As := [.int ((-2 : Int32))]) (st := []) C (post := _) (m) (by omega) hsm rfl (ct_X8_bad hw hM ((-2 : Int32)) h g) kX8_75 (by decide) (by decide) rfl rfl (Nat.le_of_ble_eq_true rfl) (D (27, .invokevirtual 75, 3) (mg 14 rfl)) rfl (fun v62 H60 G61 hv62 => ?_)
      obtain ⟨rfl, rfl, rfl⟩ := hv62
      show X k w _ 30 [some (.ref (wA w (m))), some (.int (nI (n8))), some (.int (a2)), none, none, none, none, none] [.int ((-2 : Int32))] (rfH h m 0) g
      exact X_iret C (D (30, .ireturn, 1) (mg 15 rfl)) ⟨⟨_, rfl⟩, ⟨fun q i z0 => by have z := z0; unfold SM at z; rw [rfH_ne _ _ _ (by omega)], rU_k (fun i => by rw [rfH_ne _ _ _ (by omega)]) hI.1⟩⟩
set_option maxHeartbeats 4000000 in
set_option maxRecDepth 100000 in
theorem ct_X8_sums {l : Launch} {w : Kw} (hw : wOk w) {m : Nat} (hM : shM w m) (d0 : Int64) {f0 n0 : Nat} (hf : f0 + n0 ≤ 310) (h : xI) (g : xJ)  : Ct l w yX8_sums cX8_sums 8 (some .long) 0 0 [.ref (wA w (m)), .long (d0), .int (nI (f0)), .int (nI (n0))] h g (pIl h g) := by
  refine Ct_of (ls := [some (.ref (wA w (m))), some (.long (d0)), none, some (.int (nI (f0))), some (.int (nI (n0))), none, none, none]) (by decide) hw (Nat.le_of_ble_eq_true rfl) rfl (fun k hkl C => ?_)
  have C : Cx k w cX8_sums RX8 8 (some .long) 0 0 := C
  have D := dtX8_sums
  subst hkl
  have hM0 := hM
  obtain ⟨hm, hsm, hs1, hs2, hs3, hs4, hs5, hs6, hs7, hs8, hs9, hs10, hs11⟩ := hM
  have hM := hM0
  refine X_lload_n C 1 (D (0, .lload_n 1, 1) (mg 0 rfl)) rfl rfl ?_
  refine X_lstore (ls' := [some (.ref (wA w (m))), some (.long (d0)), none, some (.int (nI (f0))), some (.int (nI (n0))), some (.long (d0)), none, none]) C (D (1, .lstore 5, 2) (mg 1 rfl)) (Nat.le_of_ble_eq_true rfl) rfl ?_
  refine X_iconst (v := nI (0)) C (D (3, .iconst 0, 1) (mg 2 rfl)) (by decide) ?_
  refine X_istore (ls' := [some (.ref (wA w (m))), some (.long (d0)), none, some (.int (nI (f0))), some (.int (nI (n0))), some (.long (d0)), none, some (.int (nI (0)))]) C (D (4, .istore 7, 2) (mg 3 rfl)) (Nat.le_of_ble_eq_true rfl) rfl ?_
  have lp6 : ∀ (nn6 : Nat) (j : Nat) (d5 : Int64), (j ≤ n0) → n0 + 1 - j ≤ nn6 → X k w (Zq k w (pIl h g)) 6 [some (.ref (wA w (m))), some (.long (d0)), none, some (.int (nI (f0))), some (.int (nI (n0))), some (.long (d5)), none, some (.int (nI (j)))] [] h g := by
    intro nn6
    induction nn6 with
    | zero => intro j d5 hc6_0 hz; exact absurd hz (by omega)
    | succ nn6 ih6 =>
      intro j d5 hc6_0 hz6
      refine X_iload C (D (6, .iload 7, 2) (mg 4 rfl)) rfl ?_
      refine X_iload C (D (8, .iload 4, 2) (mg 5 rfl)) rfl ?_
      refine X_icmp_ge (tgt := 38) C (D (10, .if_icmp .ge 28, 3) (mg 6 rfl)) (by decide) (fun q1 => ?_) (fun q1 => ?_)
      · skip
        have q1 : (j) ≥ (n0) := by have z := (nI_leI (a := (n0)) (b := (j)) (by omega) (by omega)).mp q1; omega
        refine X_lload C (D (38, .lload 5, 2) (mg 21 rfl)) rfl ?_
        exact X_lret C (D (40, .lreturn, 1) (mg 22 rfl)) ⟨⟨_, rfl⟩, rfl, rfl⟩
      · skip
        have q1 : (j) < (n0) := by have z : ¬ ((n0) ≤ (j)) := fun u => q1 ((nI_leI (a := (n0)) (b := (j)) (by omega) (by omega)).mpr u); omega
        refine X_ldc2 C (D (13, .ldc2_w 302, 3) (mg 7 rfl)) vX8_302 ?_
        refine X_lload C (D (16, .lload 5, 2) (mg 8 rfl)) rfl ?_
        refine X_lmul C (D (18, .lmul, 1) (mg 9 rfl)) ?_
        refine X_aload_n C 0 (D (19, .aload_n 0, 1) (mg 10 rfl)) rfl rfl ?_
        refine X_get (v := .ref (wA w (m + 1))) C (m) 0 (by omega) hsm rfl rfl (by decide) inX8 fX8_7 rfl (D (20, .getfield 7, 3) (mg 11 rfl)) rfl ?_
        refine X_iload_n C 3 (D (23, .iload_n 3, 1) (mg 12 rfl)) rfl rfl ?_
        refine X_iload C (D (24, .iload 7, 2) (mg 13 rfl)) rfl ?_
        refine X_iadd C (D (26, .iadd, 1) (mg 14 rfl)) ?_
        refine X_ti (y := nI (f0 + j)) (nI_add (f0) (j)) ?_
        refine X_iald (v := h (m + 1) (f0 + j)) C (m + 1) (by omega) hs1 (vp_in_nI (by omega) (by omega)) (D (27, .iaload, 1) (mg 15 rfl)) (by rw [nI_clamp (by omega)]) ?_
        refine X_i2l C (D (28, .i2l, 1) (mg 16 rfl)) ?_
        refine X_ladd C (D (29, .ladd, 1) (mg 17 rfl)) ?_
        refine X_lstore (ls' := [some (.ref (wA w (m))), some (.long (d0)), none, some (.int (nI (f0))), some (.int (nI (n0))), some (.long ((((31 : Int64)) * d5) + ((h (m + 1) (f0 + j)).toInt64))), none, some (.int (nI (j)))]) C (D (30, .lstore 5, 2) (mg 18 rfl)) (Nat.le_of_ble_eq_true rfl) rfl ?_
        refine X_iinc (v := nI (j + 1)) (ls' := [some (.ref (wA w (m))), some (.long (d0)), none, some (.int (nI (f0))), some (.int (nI (n0))), some (.long ((((31 : Int64)) * d5) + ((h (m + 1) (f0 + j)).toInt64))), none, some (.int (nI (j + 1)))]) C (D (32, .iinc 7 1, 3) (mg 19 rfl)) rfl (nI_add (j) 1) rfl ?_
        refine X_goto (tgt := 6) C (D (35, .goto (-29), 3) (mg 20 rfl)) (by decide) ?_
        refine X_eq (ls' := [some (.ref (wA w (m))), some (.long (d0)), none, some (.int (nI (f0))), some (.int (nI (n0))), some (.long ((((31 : Int64)) * d5) + ((h (m + 1) (f0 + j)).toInt64))), none, some (.int (nI (j + 1)))]) (st' := []) (h' := h) (g' := g) rfl rfl rfl rfl ?_
        exact ih6 (j + 1) ((((31 : Int64)) * d5) + ((h (m + 1) (f0 + j)).toInt64)) (by omega) (by omega)
  refine X_eq (ls' := [some (.ref (wA w (m))), some (.long (d0)), none, some (.int (nI (f0))), some (.int (nI (n0))), some (.long (d0)), none, some (.int (nI (0)))]) (st' := []) (h' := h) (g' := g) rfl rfl rfl rfl ?_
  exact lp6 _ (0) (d0) (by omega) (Nat.le_refl _)
set_option maxHeartbeats 4000000 in
set_option maxRecDepth 100000 in
theorem ct_X8_digest {l : Launch} {w : Kw} (hw : wOk w) {m : Nat} (hM : shM w m) (h : xI) (g : xJ) (hI : mOk h m) : Ct l w yX8_digest cX8_digest 5 (some .long) 4 90 [.ref (wA w (m))] h g (pQl (mW m h)) := by
  refine Ct_of (ls := [some (.ref (wA w (m))), none, none, none, none]) (by decide) hw (Nat.le_of_ble_eq_true rfl) rfl (fun k hkl C => ?_)
  have C : Cx k w cX8_digest RX8 5 (some .long) 4 90 := C
  have D := dtX8_digest
  subst hkl
  have hM0 := hM
  obtain ⟨hm, hsm, hs1, hs2, hs3, hs4, hs5, hs6, hs7, hs8, hs9, hs10, hs11⟩ := hM
  have hM := hM0
  have hI0 := hI
  obtain ⟨⟨⟨nu, hnu, eu⟩, ⟨c0, hc0, hat⟩, hpl⟩, ⟨⟨ns, hns, hse⟩, ⟨nm, hnm, hma⟩⟩, hK, ⟨nt, hnt, htx⟩⟩ := hI
  have hI := hI0
  refine X_ldc2 C (D (0, .ldc2_w 304, 3) (mg 0 rfl)) vX8_304 ?_
  refine X_lstore_n (ls' := [some (.ref (wA w (m))), some (.long ((1741 : Int64))), none, none, none]) C 1 (D (3, .lstore_n 1, 1) (mg 1 rfl)) rfl (Nat.le_of_ble_eq_true rfl) rfl ?_
  refine X_iconst (v := nI (0)) C (D (4, .iconst 0, 1) (mg 2 rfl)) (by decide) ?_
  refine X_istore_n (ls' := [some (.ref (wA w (m))), some (.long ((1741 : Int64))), none, some (.int (nI (0))), none]) C 3 (D (5, .istore_n 3, 1) (mg 3 rfl)) rfl (Nat.le_of_ble_eq_true rfl) rfl ?_
  have lp6 : ∀ (nn6 : Nat) (j : Nat) (d : Int64), (j ≤ 10) → 11 - j ≤ nn6 → X k w (Zq k w (pQl (mW m h))) 6 [some (.ref (wA w (m))), some (.long (d)), none, some (.int (nI (j))), none] [] h g := by
    intro nn6
    induction nn6 with
    | zero => intro j d hc6_0 hz; exact absurd hz (by omega)
    | succ nn6 ih6 =>
      intro j d hc6_0 hz6
      refine X_iload_n C 3 (D (6, .iload_n 3, 1) (mg 4 rfl)) rfl rfl ?_
      refine X_bipush (v := nI (10)) C (D (7, .bipush 10, 2) (mg 5 rfl)) (by decide) ?_
      refine X_icmp_ge (tgt := 31) C (D (9, .if_icmp .ge 22, 3) (mg 6 rfl)) (by decide) (fun q1 => ?_) (fun q1 => ?_)
      · skip
        have q1 : (j) ≥ (10) := by have z := (nI_leI (a := (10)) (b := (j)) (by omega) (by omega)).mp q1; omega
        refine X_iconst (v := nI (0)) C (D (31, .iconst 0, 1) (mg 18 rfl)) (by decide) ?_
        refine X_istore_n (ls' := [some (.ref (wA w (m))), some (.long (d)), none, some (.int (nI (0))), none]) C 3 (D (32, .istore_n 3, 1) (mg 19 rfl)) rfl (Nat.le_of_ble_eq_true rfl) rfl ?_
        have lp33 : ∀ (nn33 : Nat) (j : Nat) (d : Int64), (j ≤ 25) → 26 - j ≤ nn33 → X k w (Zq k w (pQl (mW m h))) 33 [some (.ref (wA w (m))), some (.long (d)), none, some (.int (nI (j))), none] [] h g := by
          intro nn33
          induction nn33 with
          | zero => intro j d hc33_0 hz; exact absurd hz (by omega)
          | succ nn33 ih33 =>
            intro j d hc33_0 hz33
            refine X_iload_n C 3 (D (33, .iload_n 3, 1) (mg 20 rfl)) rfl rfl ?_
            refine X_bipush (v := nI (25)) C (D (34, .bipush 25, 2) (mg 21 rfl)) (by decide) ?_
            refine X_icmp_ge (tgt := 75) C (D (36, .if_icmp .ge 39, 3) (mg 22 rfl)) (by decide) (fun q2 => ?_) (fun q2 => ?_)
            · skip
              have q2 : (j) ≥ (25) := by have z := (nI_leI (a := (25)) (b := (j)) (by omega) (by omega)).mp q2; omega
              refine X_aload_n C 0 (D (75, .aload_n 0, 1) (mg 42 rfl)) rfl rfl ?_
              refine X_lload_n C 1 (D (76, .lload_n 1, 1) (mg 43 rfl)) rfl rfl ?_
              refine X_bipush (v := nI (56)) C (D (77, .bipush 56, 2) (mg 44 rfl)) (by decide) ?_
              refine X_iconst (v := nI (4)) C (D (79, .iconst 4, 1) (mg 45 rfl)) (by decide) ?_
              refine X_aload_n C 0 (D (80, .aload_n 0, 1) (mg 46 rfl)) rfl rfl ?_
              refine X_get (v := .ref (wA w (m + 1))) C (m) 0 (by omega) hsm rfl rfl (by decide) inX8 fX8_7 rfl (D (81, .getfield 7, 3) (mg 47 rfl)) rfl ?_
              refine X_iconst (v := nI (0)) C (D (84, .iconst 0, 1) (mg 48 rfl)) (by decide) ?_
              refine X_iald (v := h (m + 1) (0)) C (m + 1) (by omega) hs1 (vp_in_nI (by omega) (by omega)) (D (85, .iaload, 1) (mg 49 rfl)) (by rw [nI_clamp (by omega)]) ?_
              refine X_ti (y := nI (ns)) (hse) ?_
              refine X_imul C (D (86, .imul, 1) (mg 50 rfl)) ?_
              refine X_ti (y := nI ((4) * (ns))) (pk_mul (4) (ns)) ?_
              refine X_cV (As := [.long (d), .int (nI (56)), .int (nI ((4) * (ns)))]) (st := []) C (post := _) (m) (by omega) hsm rfl (ct_X8_sums hw hM (d) (f0 := 56) (n0 := (4) * (ns)) (by omega) h g) kX8_306 (by decide) (by decide) rfl rfl (Nat.le_of_ble_eq_true rfl) (D (87, .invokevirtual 306, 3) (mg 51 rfl)) rfl (fun v5 H3 G4 hv5 => ?_)
              obtain ⟨⟨y6, rfl⟩, rfl, rfl⟩ := hv5
              show X k w _ 90 [some (.ref (wA w (m))), some (.long (d)), none, some (.int (nI (j))), none] [.long (y6)] h g
              refine X_lstore_n (ls' := [some (.ref (wA w (m))), some (.long (y6)), none, some (.int (nI (j))), none]) C 1 (D (90, .lstore_n 1, 1) (mg 52 rfl)) rfl (Nat.le_of_ble_eq_true rfl) rfl ?_
              refine X_aload_n C 0 (D (91, .aload_n 0, 1) (mg 53 rfl)) rfl rfl ?_
              refine X_lload_n C 1 (D (92, .lload_n 1, 1) (mg 54 rfl)) rfl rfl ?_
              refine X_bipush (v := nI (76)) C (D (93, .bipush 76, 2) (mg 55 rfl)) (by decide) ?_
              refine X_iconst (v := nI (3)) C (D (95, .iconst 3, 1) (mg 56 rfl)) (by decide) ?_
              refine X_aload_n C 0 (D (96, .aload_n 0, 1) (mg 57 rfl)) rfl rfl ?_
              refine X_get (v := .ref (wA w (m + 1))) C (m) 0 (by omega) hsm rfl rfl (by decide) inX8 fX8_7 rfl (D (97, .getfield 7, 3) (mg 58 rfl)) rfl ?_
              refine X_iconst (v := nI (1)) C (D (100, .iconst 1, 1) (mg 59 rfl)) (by decide) ?_
              refine X_iald (v := h (m + 1) (1)) C (m + 1) (by omega) hs1 (vp_in_nI (by omega) (by omega)) (D (101, .iaload, 1) (mg 60 rfl)) (by rw [nI_clamp (by omega)]) ?_
              refine X_ti (y := nI (nm)) (hma) ?_
              refine X_imul C (D (102, .imul, 1) (mg 61 rfl)) ?_
              refine X_ti (y := nI ((3) * (nm))) (pk_mul (3) (nm)) ?_
              refine X_cV (As := [.long (y6), .int (nI (76)), .int (nI ((3) * (nm)))]) (st := []) C (post := _) (m) (by omega) hsm rfl (ct_X8_sums hw hM (y6) (f0 := 76) (n0 := (3) * (nm)) (by omega) h g) kX8_306 (by decide) (by decide) rfl rfl (Nat.le_of_ble_eq_true rfl) (D (103, .invokevirtual 306, 3) (mg 62 rfl)) rfl (fun v9 H7 G8 hv9 => ?_)
              obtain ⟨⟨y10, rfl⟩, rfl, rfl⟩ := hv9
              show X k w _ 106 [some (.ref (wA w (m))), some (.long (y6)), none, some (.int (nI (j))), none] [.long (y10)] h g
              refine X_lstore_n (ls' := [some (.ref (wA w (m))), some (.long (y10)), none, some (.int (nI (j))), none]) C 1 (D (106, .lstore_n 1, 1) (mg 63 rfl)) rfl (Nat.le_of_ble_eq_true rfl) rfl ?_
              refine X_ldc2 C (D (107, .ldc2_w 302, 3) (mg 64 rfl)) vX8_302 ?_
              refine X_ldc2 C (D (110, .ldc2_w 302, 3) (mg 65 rfl)) vX8_302 ?_
              refine X_lload_n C 1 (D (113, .lload_n 1, 1) (mg 66 rfl)) rfl rfl ?_
              refine X_lmul C (D (114, .lmul, 1) (mg 67 rfl)) ?_
              refine X_aload_n C 0 (D (115, .aload_n 0, 1) (mg 68 rfl)) rfl rfl ?_
              refine X_get (v := .long (g (m) 4)) C (m) 4 (by omega) hsm rfl rfl (by decide) inX8 fX8_207 rfl (D (116, .getfield 207, 3) (mg 69 rfl)) rfl ?_
              refine X_ladd C (D (119, .ladd, 1) (mg 70 rfl)) ?_
              refine X_lmul C (D (120, .lmul, 1) (mg 71 rfl)) ?_
              refine X_aload_n C 0 (D (121, .aload_n 0, 1) (mg 72 rfl)) rfl rfl ?_
              refine X_get (v := .long (g (m) 5)) C (m) 5 (by omega) hsm rfl rfl (by decide) inX8 fX8_23 rfl (D (122, .getfield 23, 3) (mg 73 rfl)) rfl ?_
              refine X_ladd C (D (125, .ladd, 1) (mg 74 rfl)) ?_
              exact X_lret C (D (126, .lreturn, 1) (mg 75 rfl)) ⟨⟨_, rfl⟩, (mW_r hI)⟩
            · skip
              have q2 : (j) < (25) := by have z : ¬ ((25) ≤ (j)) := fun u => q2 ((nI_leI (a := (25)) (b := (j)) (by omega) (by omega)).mpr u); omega
              refine X_iconst (v := nI (0)) C (D (39, .iconst 0, 1) (mg 23 rfl)) (by decide) ?_
              refine X_istore (ls' := [some (.ref (wA w (m))), some (.long (d)), none, some (.int (nI (j))), some (.int (nI (0)))]) C (D (40, .istore 4, 2) (mg 24 rfl)) (Nat.le_of_ble_eq_true rfl) rfl ?_
              have lp42 : ∀ (nn42 : Nat) (i4 : Nat) (d : Int64), (i4 ≤ 4) → 5 - i4 ≤ nn42 → X k w (Zq k w (pQl (mW m h))) 42 [some (.ref (wA w (m))), some (.long (d)), none, some (.int (nI (j))), some (.int (nI (i4)))] [] h g := by
                intro nn42
                induction nn42 with
                | zero => intro i4 d hc42_0 hz; exact absurd hz (by omega)
                | succ nn42 ih42 =>
                  intro i4 d hc42_0 hz42
                  refine X_iload C (D (42, .iload 4, 2) (mg 25 rfl)) rfl ?_
                  refine X_iconst (v := nI (4)) C (D (44, .iconst 4, 1) (mg 26 rfl)) (by decide) ?_
                  refine X_icmp_ge (tgt := 69) C (D (45, .if_icmp .ge 24, 3) (mg 27 rfl)) (by decide) (fun q11 => ?_) (fun q11 => ?_)
                  · skip
                    have q11 : (i4) ≥ (4) := by have z := (nI_leI (a := (4)) (b := (i4)) (by omega) (by omega)).mp q11; omega
                    refine X_iinc (v := nI (j + 1)) (ls' := [some (.ref (wA w (m))), some (.long (d)), none, some (.int (nI (j + 1))), some (.int (nI (i4)))]) C (D (69, .iinc 3 1, 3) (mg 40 rfl)) rfl (nI_add (j) 1) rfl ?_
                    refine X_goto (tgt := 33) C (D (72, .goto (-39), 3) (mg 41 rfl)) (by decide) ?_
                    refine X_los (ls' := [some (.ref (wA w (m))), some (.long (d)), none, some (.int (nI (j + 1))), none]) (by simp [lsub]) ?_
                    refine X_eq (ls' := [some (.ref (wA w (m))), some (.long (d)), none, some (.int (nI (j + 1))), none]) (st' := []) (h' := h) (g' := g) rfl rfl rfl rfl ?_
                    exact ih33 (j + 1) (d) (by omega) (by omega)
                  · skip
                    have q11 : (i4) < (4) := by have z : ¬ ((4) ≤ (i4)) := fun u => q11 ((nI_leI (a := (4)) (b := (i4)) (by omega) (by omega)).mpr u); omega
                    refine X_ldc2 C (D (48, .ldc2_w 302, 3) (mg 28 rfl)) vX8_302 ?_
                    refine X_lload_n C 1 (D (51, .lload_n 1, 1) (mg 29 rfl)) rfl rfl ?_
                    refine X_lmul C (D (52, .lmul, 1) (mg 30 rfl)) ?_
                    refine X_aload_n C 0 (D (53, .aload_n 0, 1) (mg 31 rfl)) rfl rfl ?_
                    refine X_iload_n C 3 (D (54, .iload_n 3, 1) (mg 32 rfl)) rfl rfl ?_
                    refine X_iload C (D (55, .iload 4, 2) (mg 33 rfl)) rfl ?_
                    refine X_cV (As := [.int (nI (j)), .int (nI (i4))]) (st := [.long (((31 : Int64)) * d)]) C (post := _) (m) (by omega) hsm rfl (ct_X8_toldOf hw hM (by omega) (nI (i4)) h g) kX8_146 (by decide) (by decide) rfl rfl (Nat.le_of_ble_eq_true rfl) (D (57, .invokevirtual 146, 3) (mg 34 rfl)) rfl (fun v14 H12 G13 hv14 => ?_)
                    obtain ⟨rfl, rfl, rfl⟩ := hv14
                    show X k w _ 60 [some (.ref (wA w (m))), some (.long (d)), none, some (.int (nI (j))), some (.int (nI (i4)))] [.int (tdO h (m + 1) (j) (nI (i4))), .long (((31 : Int64)) * d)] h g
                    refine X_i2l C (D (60, .i2l, 1) (mg 35 rfl)) ?_
                    refine X_ladd C (D (61, .ladd, 1) (mg 36 rfl)) ?_
                    refine X_lstore_n (ls' := [some (.ref (wA w (m))), some (.long ((((31 : Int64)) * d) + ((tdO h (m + 1) (j) (nI (i4))).toInt64))), none, some (.int (nI (j))), some (.int (nI (i4)))]) C 1 (D (62, .lstore_n 1, 1) (mg 37 rfl)) rfl (Nat.le_of_ble_eq_true rfl) rfl ?_
                    refine X_iinc (v := nI (i4 + 1)) (ls' := [some (.ref (wA w (m))), some (.long ((((31 : Int64)) * d) + ((tdO h (m + 1) (j) (nI (i4))).toInt64))), none, some (.int (nI (j))), some (.int (nI (i4 + 1)))]) C (D (63, .iinc 4 1, 3) (mg 38 rfl)) rfl (nI_add (i4) 1) rfl ?_
                    refine X_goto (tgt := 42) C (D (66, .goto (-24), 3) (mg 39 rfl)) (by decide) ?_
                    refine X_eq (ls' := [some (.ref (wA w (m))), some (.long ((((31 : Int64)) * d) + ((tdO h (m + 1) (j) (nI (i4))).toInt64))), none, some (.int (nI (j))), some (.int (nI (i4 + 1)))]) (st' := []) (h' := h) (g' := g) rfl rfl rfl rfl ?_
                    exact ih42 (i4 + 1) ((((31 : Int64)) * d) + ((tdO h (m + 1) (j) (nI (i4))).toInt64)) (by omega) (by omega)
              refine X_eq (ls' := [some (.ref (wA w (m))), some (.long (d)), none, some (.int (nI (j))), some (.int (nI (0)))]) (st' := []) (h' := h) (g' := g) rfl rfl rfl rfl ?_
              exact lp42 _ (0) (d) (by omega) (Nat.le_refl _)
        refine X_eq (ls' := [some (.ref (wA w (m))), some (.long (d)), none, some (.int (nI (0))), none]) (st' := []) (h' := h) (g' := g) rfl rfl rfl rfl ?_
        exact lp33 _ (0) (d) (by omega) (Nat.le_refl _)
      · skip
        have q1 : (j) < (10) := by have z : ¬ ((10) ≤ (j)) := fun u => q1 ((nI_leI (a := (10)) (b := (j)) (by omega) (by omega)).mpr u); omega
        refine X_ldc2 C (D (12, .ldc2_w 302, 3) (mg 7 rfl)) vX8_302 ?_
        refine X_lload_n C 1 (D (15, .lload_n 1, 1) (mg 8 rfl)) rfl rfl ?_
        refine X_lmul C (D (16, .lmul, 1) (mg 9 rfl)) ?_
        refine X_aload_n C 0 (D (17, .aload_n 0, 1) (mg 10 rfl)) rfl rfl ?_
        refine X_iload_n C 3 (D (18, .iload_n 3, 1) (mg 11 rfl)) rfl rfl ?_
        refine X_cV (As := [.int (nI (j))]) (st := [.long (((31 : Int64)) * d)]) C (post := _) (m) (by omega) hsm rfl (ct_X8_counted hw hM (by omega) h g) kX8_299 (by decide) (by decide) rfl rfl (Nat.le_of_ble_eq_true rfl) (D (19, .invokevirtual 299, 3) (mg 12 rfl)) rfl (fun v17 H15 G16 hv17 => ?_)
        obtain ⟨rfl, rfl, rfl⟩ := hv17
        show X k w _ 22 [some (.ref (wA w (m))), some (.long (d)), none, some (.int (nI (j))), none] [.int (ctO h m (j)), .long (((31 : Int64)) * d)] h g
        refine X_i2l C (D (22, .i2l, 1) (mg 13 rfl)) ?_
        refine X_ladd C (D (23, .ladd, 1) (mg 14 rfl)) ?_
        refine X_lstore_n (ls' := [some (.ref (wA w (m))), some (.long ((((31 : Int64)) * d) + ((ctO h m (j)).toInt64))), none, some (.int (nI (j))), none]) C 1 (D (24, .lstore_n 1, 1) (mg 15 rfl)) rfl (Nat.le_of_ble_eq_true rfl) rfl ?_
        refine X_iinc (v := nI (j + 1)) (ls' := [some (.ref (wA w (m))), some (.long ((((31 : Int64)) * d) + ((ctO h m (j)).toInt64))), none, some (.int (nI (j + 1))), none]) C (D (25, .iinc 3 1, 3) (mg 16 rfl)) rfl (nI_add (j) 1) rfl ?_
        refine X_goto (tgt := 6) C (D (28, .goto (-22), 3) (mg 17 rfl)) (by decide) ?_
        refine X_eq (ls' := [some (.ref (wA w (m))), some (.long ((((31 : Int64)) * d) + ((ctO h m (j)).toInt64))), none, some (.int (nI (j + 1))), none]) (st' := []) (h' := h) (g' := g) rfl rfl rfl rfl ?_
        exact ih6 (j + 1) ((((31 : Int64)) * d) + ((ctO h m (j)).toInt64)) (by omega) (by omega)
  refine X_eq (ls' := [some (.ref (wA w (m))), some (.long ((1741 : Int64))), none, some (.int (nI (0))), none]) (st' := []) (h' := h) (g' := g) rfl rfl rfl rfl ?_
  exact lp6 _ (0) ((1741 : Int64)) (by omega) (Nat.le_refl _)
