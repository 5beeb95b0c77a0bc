/-! PHASE 3, THE CLASS: way, exact -/
def kI (T : Nat → Nat) (s k c0 S0 j c1 S1 : Nat) : Prop := FW T s c1 S1 + j = FW T s c0 S0 ∧ (j ≤ k → ∀ i, ksN T s (k - j) c1 S1 i → ksN T s k c0 S0 i)
theorem kI_s {T : Nat → Nat} {s k c0 S0 j c1 S1 i : Nat} (H : kI T s k c0 S0 j c1 S1) (hj : j < k) (f : fsN T s c1 S1 i) : kI T s k c0 S0 (j + 1) (bsN c1 i) (woF T (bsN c1 i) s S1) := by
  obtain ⟨a, b⟩ := H
  have e := f.2.1.2
  refine ⟨by omega, fun _ i2 h2 => b (by omega) i2 ?_⟩
  rw [show k - j = (k - (j + 1)) + 1 by omega]
  exact ⟨i, f, h2⟩
theorem kI_z {T : Nat → Nat} {s k c0 S0 c1 S1 i : Nat} (H : kI T s k c0 S0 k c1 S1) (f : fsN T s c1 S1 i) : ksN T s k c0 S0 i := by
  refine H.2 (Nat.le_refl _) i ?_
  rw [Nat.sub_self]
  exact f
theorem kI_e {T : Nat → Nat} {s k c0 S0 j c1 S1 i : Nat} (H : kI T s k c0 S0 j c1 S1) (hj : k ≤ j) (f : fsN T s c1 S1 i) : kI T s k c0 S0 (j + 1) (bsN c1 i) (woF T (bsN c1 i) s S1) := by
  have e := f.2.1.2
  exact ⟨by have := H.1; omega, fun z => by omega⟩
theorem kI_a {T : Nat → Nat} {s k c0 S0 j c1 S1 i : Nat} (H : kI T s k c0 S0 j c1 S1) (f : fsN T s c1 S1 i) : kI T s k c0 S0 (j + 1) (bsN c1 i) (woF T (bsN c1 i) s S1) := by
  by_cases q : j < k
  · exact kI_s H q f
  · exact kI_e H (by omega) f
def kZ (T : Nat → Nat) (s k c0 S0 j : Nat) (z : Int32) : Prop := j = k + 1 → ∃ i, z = nI i ∧ ksN T s k c0 S0 i
theorem kZ_s {T : Nat → Nat} {s k c0 S0 j c1 S1 i : Nat} (H : kI T s k c0 S0 j c1 S1) (f : fsN T s c1 S1 i) : kZ T s k c0 S0 (j + 1) (nI i) := fun e => by
  have : j = k := by omega
  subst this
  exact ⟨i, rfl, kI_z H f⟩
set_option maxHeartbeats 4000000 in
set_option maxRecDepth 100000 in
theorem cx_X6_stepFrom {l : Launch} {w : Kw} (hw : wOk w) {y : Nat} (hY : shY w y) {s : Nat} (hs : s ≤ 5) {T : Nat → Nat} (hT : tOK T s) (hD : dis T s) {c0 kk : Nat} (hc : c0 < 25) (hk : kk < FW T s c0 (woF T c0 s (p2 s - 1))) (h : xI) (g : xJ) (hb : h y 2 = nI s) (hto : ∀ k, k < s → h (y + 1) k = nI (T k)) (hre : ∀ e, e < p2 s → ∀ i, i < s → h (y + 2) (e * 5 + i) = nI (FW T s (T i) e)) : Ct l w yX6_stepFrom cX6_stepFrom 8 (some .int) 4 92 [.ref (wA w (y)), .int (nI (c0)), .int (nI (kk))] h g (pP (fun z => ∃ i, z = nI i ∧ ksN T s kk c0 (woF T c0 s (p2 s - 1)) i) h g) := by
  refine Ct_of (ls := [some (.ref (wA w (y))), some (.int (nI (c0))), some (.int (nI (kk))), none, none, none, none, none]) (by decide) hw (Nat.le_of_ble_eq_true rfl) rfl (fun k hkl C => ?_)
  have C : Cx k w cX6_stepFrom RX6 8 (some .int) 4 92 := C
  have D := dtX6_stepFrom
  subst hkl
  generalize hPP : (pP (fun z => ∃ i, z = nI i ∧ ksN T s kk c0 (woF T c0 s (p2 s - 1)) i) h g) = PP
  have hY0 := hY
  obtain ⟨hyn, hsy, hy1, hy2⟩ := hY
  have hY := hY0
  have hp32 := p2_32 hs
  have hp2 := p2_e s (by omega)
  have hw0_ : woF T c0 s (p2 s - 1) < p2 s := wo3_lt hs (by omega) (woF_3 s)
  have hf40_ := FW_40 (c := c0) hs hT hc hw0_
  refine X_iload_n C 1 (D (0, .iload_n 1, 1) (mg 0 rfl)) rfl rfl ?_
  refine X_istore_n (ls' := [some (.ref (wA w (y))), some (.int (nI (c0))), some (.int (nI (kk))), some (.int (nI (c0))), none, none, none, none]) C 3 (D (1, .istore_n 3, 1) (mg 1 rfl)) rfl (Nat.le_of_ble_eq_true rfl) rfl ?_
  refine X_aload_n C 0 (D (2, .aload_n 0, 1) (mg 2 rfl)) rfl rfl ?_
  refine X_iconst (v := nI (1)) C (D (3, .iconst 1, 1) (mg 3 rfl)) (by decide) ?_
  refine X_aload_n C 0 (D (4, .aload_n 0, 1) (mg 4 rfl)) rfl rfl ?_
  refine X_get (v := .int (h (y) 2)) C (y) 2 (by omega) hsy rfl rfl (by decide) inX6 fX6_18 rfl (D (5, .getfield 18, 3) (mg 5 rfl)) rfl ?_
  refine X_ti (y := nI (s)) (hb) ?_
  refine X_ishl C (D (8, .ishl, 1) (mg 6 rfl)) ?_
  refine X_ti (y := nI (p2 (s))) (p2_e _ (by omega)).2.2 ?_
  refine X_iconst (v := nI (1)) C (D (9, .iconst 1, 1) (mg 7 rfl)) (by decide) ?_
  refine X_isub C (D (10, .isub, 1) (mg 8 rfl)) ?_
  refine X_ti (y := nI (p2 (s) - 1)) (pk_sub (by omega)) ?_
  refine X_iload_n C 1 (D (11, .iload_n 1, 1) (mg 9 rfl)) rfl rfl ?_
  refine X_cV (As := [.int (nI (p2 (s) - 1)), .int (nI (c0))]) (st := []) C (post := _) (y) (by omega) hsy rfl (cx_X6_without hw (y := y) hY (s := s) hs (T := T) hT hD (S := p2 (s) - 1) (c := c0) (by omega) (by omega) h g hb hto) kX6_26 (by decide) (by decide) rfl rfl (Nat.le_of_ble_eq_true rfl) (D (12, .invokevirtual 26, 3) (mg 10 rfl)) rfl (fun v3 H1 G2 hv3 => ?_)
  obtain ⟨rfl, rfl, rfl⟩ := hv3
  show X k w _ 15 [some (.ref (wA w (y))), some (.int (nI (c0))), some (.int (nI (kk))), some (.int (nI (c0))), none, none, none, none] [.int (nI (woF T (c0) s (p2 (s) - 1)))] h g
  refine X_istore (ls' := [some (.ref (wA w (y))), some (.int (nI (c0))), some (.int (nI (kk))), some (.int (nI (c0))), some (.int (nI (woF T (c0) s (p2 (s) - 1)))), none, none, none]) C (D (15, .istore 4, 2) (mg 11 rfl)) (Nat.le_of_ble_eq_true rfl) rfl ?_
  refine X_iconst (v := (-1 : Int32)) C (D (17, .iconst (-1), 1) (mg 12 rfl)) (by decide) ?_
  refine X_istore (ls' := [some (.ref (wA w (y))), some (.int (nI (c0))), some (.int (nI (kk))), some (.int (nI (c0))), some (.int (nI (woF T (c0) s (p2 (s) - 1)))), some (.int ((-1 : Int32))), none, none]) C (D (18, .istore 5, 2) (mg 13 rfl)) (Nat.le_of_ble_eq_true rfl) rfl ?_
  refine X_iconst (v := nI (0)) C (D (20, .iconst 0, 1) (mg 14 rfl)) (by decide) ?_
  refine X_istore (ls' := [some (.ref (wA w (y))), some (.int (nI (c0))), some (.int (nI (kk))), some (.int (nI (c0))), some (.int (nI (woF T (c0) s (p2 (s) - 1)))), some (.int ((-1 : Int32))), some (.int (nI (0))), none]) C (D (21, .istore 6, 2) (mg 15 rfl)) (Nat.le_of_ble_eq_true rfl) rfl ?_
  have lp23 : ∀ (nn23 : Nat) (c1 : Nat) (S1 : Nat) (j : Nat) (z5 : Int32), (c1 < 25) → (j ≤ kk + 1) → (S1 < p2 s) → (cns T s S1 c1) → (kI T s kk c0 (woF T c0 s (p2 s - 1)) j c1 S1) → (kZ T s kk c0 (woF T c0 s (p2 s - 1)) j z5) → kk + 2 - j ≤ nn23 → X k w (Zq k w (PP)) 23 [some (.ref (wA w (y))), some (.int (nI (c0))), some (.int (nI (kk))), some (.int (nI (c1))), some (.int (nI (S1))), some (.int (z5)), some (.int (nI (j))), none] [] h g := by
    intro nn23
    induction nn23 with
    | zero => intro c1 S1 j z5 hc23_0 hc23_1 hc23_2 hc23_3 hc23_4 hc23_5 hz; exact absurd hz (by omega)
    | succ nn23 ih23 =>
      intro c1 S1 j z5 hc23_0 hc23_1 hc23_2 hc23_3 hc23_4 hc23_5 hz23
      refine X_iload C (D (23, .iload 6, 2) (mg 16 rfl)) rfl ?_
      refine X_iload_n C 2 (D (25, .iload_n 2, 1) (mg 17 rfl)) rfl rfl ?_
      refine X_icmp_gt (tgt := 90) C (D (26, .if_icmp .gt 64, 3) (mg 18 rfl)) (by decide) (fun q4 => ?_) (fun q4 => ?_)
      · skip
        have q4 : (j) > (kk) := by have z := (nI_ltI (a := (kk)) (b := (j)) (by omega) (by omega)).mp q4; omega
        refine X_iload C (D (90, .iload 5, 2) (mg 50 rfl)) rfl ?_
        exact X_iret C (D (92, .ireturn, 1) (mg 51 rfl)) (by rw [← hPP]; exact ⟨⟨_, rfl, hc23_5 (by omega)⟩, rfl, rfl⟩)
      · skip
        have q4 : (j) ≤ (kk) := by have z : ¬ ((kk) < (j)) := fun u => q4 ((nI_ltI (a := (kk)) (b := (j)) (by omega) (by omega)).mpr u); omega
        refine X_iload C (D (29, .iload 6, 2) (mg 19 rfl)) rfl ?_
        refine X_sipush (v := nI (1000)) C (D (31, .sipush 1000, 3) (mg 20 rfl)) (by decide) ?_
        refine X_icmp_ge (tgt := 90) C (D (34, .if_icmp .ge 56, 3) (mg 21 rfl)) (by decide) (fun q5 => ?_) (fun q5 => ?_)
        · skip
          have q5 : (j) ≥ (1000) := by have z := (nI_leI (a := (1000)) (b := (j)) (by omega) (by omega)).mp q5; omega
          exact absurd q5 (by omega)
        · skip
          have q5 : (j) < (1000) := by have z : ¬ ((1000) ≤ (j)) := fun u => q5 ((nI_leI (a := (1000)) (b := (j)) (by omega) (by omega)).mpr u); omega
          have hkj_ := hc23_4.1
          have hS0_ : ¬ S1 = 0 := fun u_ => by rw [u_, FW_0] at hkj_; omega
          refine X_aload_n C 0 (D (37, .aload_n 0, 1) (mg 22 rfl)) rfl rfl ?_
          refine X_iload_n C 3 (D (38, .iload_n 3, 1) (mg 23 rfl)) rfl rfl ?_
          refine X_iload C (D (39, .iload 4, 2) (mg 24 rfl)) rfl ?_
          refine X_cV (As := [.int (nI (c1)), .int (nI (S1))]) (st := []) C (post := _) (y) (by omega) hsy rfl (cx_X6_firstStep hw (y := y) hY (s := s) hs (T := T) hT hD (c := c1) (S := S1) (by omega) hc23_2 hS0_ hc23_3 h g hb hto hre) kX6_41 (by decide) (by decide) rfl rfl (Nat.le_of_ble_eq_true rfl) (D (41, .invokevirtual 41, 3) (mg 25 rfl)) rfl (fun v8 H6 G7 hv8 => ?_)
          obtain ⟨⟨_, rfl, i9, rfl, hfs_⟩, rfl, rfl⟩ := hv8
          have hgd_ := hfs_.2.1
          have hi9_ := hfs_.1
          show X k w _ 44 [some (.ref (wA w (y))), some (.int (nI (c0))), some (.int (nI (kk))), some (.int (nI (c1))), some (.int (nI (S1))), some (.int (z5)), some (.int (nI (j))), none] [.int (nI (i9))] h g
          refine X_istore (ls' := [some (.ref (wA w (y))), some (.int (nI (c0))), some (.int (nI (kk))), some (.int (nI (c1))), some (.int (nI (S1))), some (.int (nI (i9))), some (.int (nI (j))), none]) C (D (44, .istore 5, 2) (mg 26 rfl)) (Nat.le_of_ble_eq_true rfl) rfl ?_
          refine X_iload C (D (46, .iload 5, 2) (mg 27 rfl)) rfl ?_
          refine X_iconst (v := (-1 : Int32)) C (D (48, .iconst (-1), 1) (mg 28 rfl)) (by decide) ?_
          refine X_icmp_ne (tgt := 56) C (D (49, .if_icmp .ne 7, 3) (mg 29 rfl)) (by decide) (fun q9 => ?_) (fun q9 => ?_)
          · skip
            refine X_iload_n C 3 (D (56, .iload_n 3, 1) (mg 32 rfl)) rfl rfl ?_
            refine X_iload C (D (57, .iload 5, 2) (mg 33 rfl)) rfl ?_
            refine X_cN (As := [.int (nI (c1)), .int (nI (i9))]) (st := []) C (post := _) (ct_X7_beside hw (j := c1) (by omega) (nI (i9)) h g) kX6_44 (by decide) (by decide) rfl rfl (Nat.le_of_ble_eq_true rfl) (D (59, .invokestatic 44, 3) (mg 34 rfl)) rfl (fun v12 H10 G11 hv12 => ?_)
            obtain ⟨⟨y13, rfl, hy13, ey13⟩, rfl, rfl⟩ := hv12
            show X k w _ 62 [some (.ref (wA w (y))), some (.int (nI (c0))), some (.int (nI (kk))), some (.int (nI (c1))), some (.int (nI (S1))), some (.int (nI (i9))), some (.int (nI (j))), none] [.int (y13)] h g
            refine X_istore (ls' := [some (.ref (wA w (y))), some (.int (nI (c0))), some (.int (nI (kk))), some (.int (nI (c1))), some (.int (nI (S1))), some (.int (nI (i9))), some (.int (nI (j))), some (.int (y13))]) C (D (62, .istore 7, 2) (mg 35 rfl)) (Nat.le_of_ble_eq_true rfl) rfl ?_
            refine X_iload C (D (64, .iload 7, 2) (mg 36 rfl)) rfl ?_
            refine X_iconst (v := (-1 : Int32)) C (D (66, .iconst (-1), 1) (mg 37 rfl)) (by decide) ?_
            refine X_icmp_ne (tgt := 72) C (D (67, .if_icmp .ne 5, 3) (mg 38 rfl)) (by decide) (fun q14 => ?_) (fun q14 => ?_)
            · skip
              obtain ⟨c15, hc15, rfl⟩ := hy13.resolve_left q14
              obtain ⟨hbs_, rfl⟩ := bq_c (by omega) (by omega) hc15 ey13
              refine X_iload C (D (72, .iload 7, 2) (mg 41 rfl)) rfl ?_
              refine X_istore_n (ls' := [some (.ref (wA w (y))), some (.int (nI (c0))), some (.int (nI (kk))), some (.int (nI ((bsN c1 i9)))), some (.int (nI (S1))), some (.int (nI (i9))), some (.int (nI (j))), some (.int (nI ((bsN c1 i9))))]) C 3 (D (74, .istore_n 3, 1) (mg 42 rfl)) rfl (Nat.le_of_ble_eq_true rfl) rfl ?_
              refine X_aload_n C 0 (D (75, .aload_n 0, 1) (mg 43 rfl)) rfl rfl ?_
              refine X_iload C (D (76, .iload 4, 2) (mg 44 rfl)) rfl ?_
              refine X_iload_n C 3 (D (78, .iload_n 3, 1) (mg 45 rfl)) rfl rfl ?_
              refine X_cV (As := [.int (nI (S1)), .int (nI ((bsN c1 i9)))]) (st := []) C (post := _) (y) (by omega) hsy rfl (cx_X6_without hw (y := y) hY (s := s) hs (T := T) hT hD (S := S1) (c := (bsN c1 i9)) (by omega) (by omega) h g hb hto) kX6_26 (by decide) (by decide) rfl rfl (Nat.le_of_ble_eq_true rfl) (D (79, .invokevirtual 26, 3) (mg 46 rfl)) rfl (fun v18 H16 G17 hv18 => ?_)
              obtain ⟨rfl, rfl, rfl⟩ := hv18
              show X k w _ 82 [some (.ref (wA w (y))), some (.int (nI (c0))), some (.int (nI (kk))), some (.int (nI ((bsN c1 i9)))), some (.int (nI (S1))), some (.int (nI (i9))), some (.int (nI (j))), some (.int (nI ((bsN c1 i9))))] [.int (nI (woF T ((bsN c1 i9)) s (S1)))] h g
              refine X_istore (ls' := [some (.ref (wA w (y))), some (.int (nI (c0))), some (.int (nI (kk))), some (.int (nI ((bsN c1 i9)))), some (.int (nI (woF T ((bsN c1 i9)) s (S1)))), some (.int (nI (i9))), some (.int (nI (j))), some (.int (nI ((bsN c1 i9))))]) C (D (82, .istore 4, 2) (mg 47 rfl)) (Nat.le_of_ble_eq_true rfl) rfl ?_
              refine X_iinc (v := nI (j + 1)) (ls' := [some (.ref (wA w (y))), some (.int (nI (c0))), some (.int (nI (kk))), some (.int (nI ((bsN c1 i9)))), some (.int (nI (woF T ((bsN c1 i9)) s (S1)))), some (.int (nI (i9))), some (.int (nI (j + 1))), some (.int (nI ((bsN c1 i9))))]) C (D (84, .iinc 6 1, 3) (mg 48 rfl)) rfl (nI_add (j) 1) rfl ?_
              refine X_goto (tgt := 23) C (D (87, .goto (-64), 3) (mg 49 rfl)) (by decide) ?_
              refine X_los (ls' := [some (.ref (wA w (y))), some (.int (nI (c0))), some (.int (nI (kk))), some (.int (nI ((bsN c1 i9)))), some (.int (nI (woF T ((bsN c1 i9)) s (S1)))), some (.int (nI (i9))), some (.int (nI (j + 1))), none]) (by simp [lsub]) ?_
              refine X_eq (ls' := [some (.ref (wA w (y))), some (.int (nI (c0))), some (.int (nI (kk))), some (.int (nI ((bsN c1 i9)))), some (.int (nI (woF T ((bsN c1 i9)) s (S1)))), some (.int (nI (i9))), some (.int (nI (j + 1))), none]) (st' := []) (h' := h) (g' := g) rfl rfl rfl rfl ?_
              exact ih23 ((bsN c1 i9)) (woF T ((bsN c1 i9)) s (S1)) (j + 1) (nI (i9)) (by omega) (by omega) (wo3_lt hs hc23_2 (woF_3 s)) (wo3_c hs hD hc23_2 (woF_3 s)) (kI_a hc23_4 hfs_) (kZ_s hc23_4 hfs_) (by omega)
            · skip
              subst q14
              refine X_iconst (v := (-1 : Int32)) C (D (70, .iconst (-1), 1) (mg 39 rfl)) (by decide) ?_
              exact X_iret C (D (71, .ireturn, 1) (mg 40 rfl)) (by rw [← hPP]; exact (absurd hgd_.1 (bq_m (by omega) (by omega) ey13)))
          · skip
            exact absurd q9 (nI_nm (by omega))
  refine X_eq (ls' := [some (.ref (wA w (y))), some (.int (nI (c0))), some (.int (nI (kk))), some (.int (nI (c0))), some (.int (nI (woF T (c0) s (p2 (s) - 1)))), some (.int ((-1 : Int32))), some (.int (nI (0))), none]) (st' := []) (h' := h) (g' := g) rfl rfl rfl rfl ?_
  exact lp23 _ (c0) (woF T (c0) s (p2 (s) - 1)) (0) ((-1 : Int32)) (by omega) (by omega) hw0_ (wo3_c hs hD (by omega) (woF_3 s)) ⟨rfl, fun _ i u_ => u_⟩ (fun u_ => absurd u_ (by omega)) (Nat.le_refl _)
def tdP (K : Nat) (y j : Nat) (h : xI) : Prop := ∀ i, i < j → K / 2 ^ i % 2 = 1 → h (y + 1) (bs K i) = nI i
theorem tdP_s {K y j : Nat} {h : xI} (H : tdP K y j h) (hb : K / 2 ^ j % 2 = 1) : tdP K y (j + 1) (u2 h (y + 1) (bs K j) (nI j)) := fun i hi hb2 => by
  by_cases e : i = j
  · subst e; rw [u2_s]
  · rw [u2_ne _ _ _ _ (by have := bsK_lt hb2 (show i < j by omega); omega)]; exact H i (by omega) hb2
theorem tdP_k {K y j : Nat} {h : xI} (H : tdP K y j h) (hb : ¬ K / 2 ^ j % 2 = 1) : tdP K y (j + 1) h := fun i hi hb2 => by
  by_cases e : i = j
  · subst e; exact absurd hb2 hb
  · exact H i (by omega) hb2
theorem tdP_e {K y j : Nat} {h : xI} (H : tdP K y j h) (hj : j ≤ 25) (e : bs K j = bs K 25) : ∀ k, k < bs K 25 → h (y + 1) k = nI (tdK K 25 k) := fun k hk => by
  obtain ⟨i, h1, h2, h3⟩ := tdK_s (K := K) j k (by omega)
  rw [← h3, tdK_e h2 25 (by omega)]
  exact H i h1 h2
theorem rs_s {T : Nat → Nat} {s e i3 y : Nat} {h : xI} (H : ∀ e2, e2 < e → ∀ i, i < s → h (y + 2) (e2 * 5 + i) = nI (FW T s (T i) e2)) (H2 : ∀ i, i < i3 → h (y + 2) (e * 5 + i) = nI (FW T s (T i) e)) (h3 : s ≤ i3) : ∀ e2, e2 < e + 1 → ∀ i, i < s → h (y + 2) (e2 * 5 + i) = nI (FW T s (T i) e2) := fun e2 he i hi => by
  by_cases q : e2 = e
  · subst q; exact H2 i (by omega)
  · exact H e2 (by omega) i hi
theorem rw_s {T : Nat → Nat} {s e i3 y : Nat} {h : xI} (H : ∀ i, i < i3 → h (y + 2) (e * 5 + i) = nI (FW T s (T i) e)) : ∀ i, i < i3 + 1 → u2 h (y + 2) (e * 5 + i3) (nI (FW T s (T i3) e)) (y + 2) (e * 5 + i) = nI (FW T s (T i) e) := fun i hi => by
  by_cases q : i = i3
  · subst q; rw [u2_s]
  · rw [u2_ne _ _ _ _ (by omega)]; exact H i (by omega)
set_option maxHeartbeats 4000000 in
set_option maxRecDepth 100000 in
theorem cx_X6_prepare {l : Launch} {w : Kw} (hw : wOk w) {y : Nat} (hY : shY w y) {K : Nat} (hK : K < 33554432) (h5 : bs K 25 ≤ 5) (h : xI) (g : xJ)  : Ct l w yX6_prepare cX6_prepare 4 none 3 67 [.ref (wA w (y)), .int (nI (K))] h g (pQv (fun h' => (∀ q i, q ≠ y → q ≠ y + 1 → q ≠ y + 2 → h' q i = h q i) ∧ h' y 2 = nI (bs K 25) ∧ (∀ k, k < bs K 25 → h' (y + 1) k = nI (tdK K 25 k)) ∧ ∀ e, e < p2 (bs K 25) → ∀ i, i < bs K 25 → h' (y + 2) (e * 5 + i) = nI (FW (tdK K 25) (bs K 25) (tdK K 25 i) e))) := by
  refine Ct_of (ls := [some (.ref (wA w (y))), some (.int (nI (K))), none, none]) (by decide) hw (Nat.le_of_ble_eq_true rfl) rfl (fun k hkl C => ?_)
  have C : Cx k w cX6_prepare RX6 4 none 3 67 := C
  have D := dtX6_prepare
  subst hkl
  have hY0 := hY
  obtain ⟨hyn, hsy, hy1, hy2⟩ := hY
  have hY := hY0
  obtain ⟨s, hsE⟩ : ∃ s, s = bs K 25 := ⟨_, rfl⟩
  have hs : s ≤ 5 := by omega
  obtain ⟨T, hTE⟩ : ∃ T, T = tdK K 25 := ⟨_, rfl⟩
  have hT : tOK T s := by rw [hTE, hsE]; exact tdK_ok K
  have hD : dis T s := by rw [hTE, hsE]; exact tdK_d K
  have hp32 := p2_32 hs
  refine X_aload_n C 0 (D (0, .aload_n 0, 1) (mg 0 rfl)) rfl rfl ?_
  refine X_iconst (v := nI (0)) C (D (1, .iconst 0, 1) (mg 1 rfl)) (by decide) ?_
  refine X_putI C (y) 2 tyX6 tyX6_ok nmX6 (by omega) hsy rfl rfl (by decide) inX6 fX6_18 rfl rfl (by decide +kernel) (D (2, .putfield 18, 3) (mg 2 rfl)) ?_
  refine X_iconst (v := nI (0)) C (D (5, .iconst 0, 1) (mg 3 rfl)) (by decide) ?_
  refine X_istore_n (ls' := [some (.ref (wA w (y))), some (.int (nI (K))), some (.int (nI (0))), none]) C 2 (D (6, .istore_n 2, 1) (mg 4 rfl)) rfl (Nat.le_of_ble_eq_true rfl) rfl ?_
  have lp7 : ∀ (nn7 : Nat) (j : Nat) (h1_ : xI), (j ≤ 25) → (h1_ y 2 = nI (bs K j)) → (∀ q i, q ≠ y → q ≠ y + 1 → q ≠ y + 2 → h1_ q i = h q i) → (tdP K y j h1_) → 26 - j ≤ nn7 → X k w (Zq k w (pQv (fun h' => (∀ q i, q ≠ y → q ≠ y + 1 → q ≠ y + 2 → h' q i = h q i) ∧ h' y 2 = nI (bs K 25) ∧ (∀ k, k < bs K 25 → h' (y + 1) k = nI (tdK K 25 k)) ∧ ∀ e, e < p2 (bs K 25) → ∀ i, i < bs K 25 → h' (y + 2) (e * 5 + i) = nI (FW (tdK K 25) (bs K 25) (tdK K 25 i) e)))) 7 [some (.ref (wA w (y))), some (.int (nI (K))), some (.int (nI (j))), none] [] h1_ g := by
    intro nn7
    induction nn7 with
    | zero => intro j h1_ hc7_0 hc7_1 hc7_2 hc7_3 hz; exact absurd hz (by omega)
    | succ nn7 ih7 =>
      intro j h1_ hc7_0 hc7_1 hc7_2 hc7_3 hz7
      refine X_iload_n C 2 (D (7, .iload_n 2, 1) (mg 5 rfl)) rfl rfl ?_
      refine X_bipush (v := nI (25)) C (D (8, .bipush 25, 2) (mg 6 rfl)) (by decide) ?_
      refine X_icmp_ge (tgt := 56) C (D (10, .if_icmp .ge 46, 3) (mg 7 rfl)) (by decide) (fun q1 => ?_) (fun q1 => ?_)
      · skip
        have q1 : (j) ≥ (25) := by have z := (nI_leI (a := (25)) (b := (j)) (by omega) (by omega)).mp q1; omega
        have hbe_ : bs K j = bs K 25 := by rw [show j = 25 by omega]
        refine X_iconst (v := nI (0)) C (D (56, .iconst 0, 1) (mg 33 rfl)) (by decide) ?_
        refine X_istore_n (ls' := [some (.ref (wA w (y))), some (.int (nI (K))), some (.int (nI (0))), none]) C 2 (D (57, .istore_n 2, 1) (mg 34 rfl)) rfl (Nat.le_of_ble_eq_true rfl) rfl ?_
        have lp58 : ∀ (nn58 : Nat) (e : Nat) (h2_ : xI), (e ≤ p2 s) → (h2_ y 2 = nI s) → (∀ k, k < s → h2_ (y + 1) k = nI (T k)) → (∀ e2, e2 < e → ∀ i, i < s → h2_ (y + 2) (e2 * 5 + i) = nI (FW T s (T i) e2)) → (∀ q i, q ≠ y → q ≠ y + 1 → q ≠ y + 2 → h2_ q i = h q i) → p2 s + 1 - e ≤ nn58 → X k w (Zq k w (pQv (fun h' => (∀ q i, q ≠ y → q ≠ y + 1 → q ≠ y + 2 → h' q i = h q i) ∧ h' y 2 = nI (bs K 25) ∧ (∀ k, k < bs K 25 → h' (y + 1) k = nI (tdK K 25 k)) ∧ ∀ e, e < p2 (bs K 25) → ∀ i, i < bs K 25 → h' (y + 2) (e * 5 + i) = nI (FW (tdK K 25) (bs K 25) (tdK K 25 i) e)))) 58 [some (.ref (wA w (y))), some (.int (nI (K))), some (.int (nI (e))), none] [] h2_ g := by
          intro nn58
          induction nn58 with
          | zero => intro e h2_ hc58_0 hc58_1 hc58_2 hc58_3 hc58_4 hz; exact absurd hz (by omega)
          | succ nn58 ih58 =>
            intro e h2_ hc58_0 hc58_1 hc58_2 hc58_3 hc58_4 hz58
            refine X_iload_n C 2 (D (58, .iload_n 2, 1) (mg 35 rfl)) rfl rfl ?_
            refine X_iconst (v := nI (1)) C (D (59, .iconst 1, 1) (mg 36 rfl)) (by decide) ?_
            refine X_aload_n C 0 (D (60, .aload_n 0, 1) (mg 37 rfl)) rfl rfl ?_
            refine X_get (v := .int (h2_ (y) 2)) C (y) 2 (by omega) hsy rfl rfl (by decide) inX6 fX6_18 rfl (D (61, .getfield 18, 3) (mg 38 rfl)) rfl ?_
            refine X_ti (y := nI (s)) (hc58_1) ?_
            refine X_ishl C (D (64, .ishl, 1) (mg 39 rfl)) ?_
            refine X_ti (y := nI (p2 (s))) (p2_e _ (by omega)).2.2 ?_
            refine X_icmp_ge (tgt := 111) C (D (65, .if_icmp .ge 46, 3) (mg 40 rfl)) (by decide) (fun q2 => ?_) (fun q2 => ?_)
            · skip
              have q2 : (e) ≥ (p2 (s)) := by have z := (nI_leI (a := (p2 (s))) (b := (e)) (by omega) (by omega)).mp q2; omega
              exact X_vret C (D (111, .return_, 1) (mg 66 rfl)) (by rw [← hsE, ← hTE]; exact ⟨rfl, hc58_4, hc58_1, hc58_2, fun e2 he => hc58_3 e2 (by omega)⟩)
            · skip
              have q2 : (e) < (p2 (s)) := by have z : ¬ ((p2 (s)) ≤ (e)) := fun u => q2 ((nI_leI (a := (p2 (s))) (b := (e)) (by omega) (by omega)).mpr u); omega
              refine X_iconst (v := nI (0)) C (D (68, .iconst 0, 1) (mg 41 rfl)) (by decide) ?_
              refine X_istore_n (ls' := [some (.ref (wA w (y))), some (.int (nI (K))), some (.int (nI (e))), some (.int (nI (0)))]) C 3 (D (69, .istore_n 3, 1) (mg 42 rfl)) rfl (Nat.le_of_ble_eq_true rfl) rfl ?_
              have lp70 : ∀ (nn70 : Nat) (i3 : Nat) (h3_ : xI), (i3 ≤ s) → (h3_ y 2 = nI s) → (∀ k, k < s → h3_ (y + 1) k = nI (T k)) → (∀ e2, e2 < e → ∀ i, i < s → h3_ (y + 2) (e2 * 5 + i) = nI (FW T s (T i) e2)) → (∀ i, i < i3 → h3_ (y + 2) (e * 5 + i) = nI (FW T s (T i) e)) → (∀ q i, q ≠ y → q ≠ y + 1 → q ≠ y + 2 → h3_ q i = h q i) → 6 - i3 ≤ nn70 → X k w (Zq k w (pQv (fun h' => (∀ q i, q ≠ y → q ≠ y + 1 → q ≠ y + 2 → h' q i = h q i) ∧ h' y 2 = nI (bs K 25) ∧ (∀ k, k < bs K 25 → h' (y + 1) k = nI (tdK K 25 k)) ∧ ∀ e, e < p2 (bs K 25) → ∀ i, i < bs K 25 → h' (y + 2) (e * 5 + i) = nI (FW (tdK K 25) (bs K 25) (tdK K 25 i) e)))) 70 [some (.ref (wA w (y))), some (.int (nI (K))), some (.int (nI (e))), some (.int (nI (i3)))] [] h3_ g := by
                intro nn70
                induction nn70 with
                | zero => intro i3 h3_ hc70_0 hc70_1 hc70_2 hc70_3 hc70_4 hc70_5 hz; exact absurd hz (by omega)
                | succ nn70 ih70 =>
                  intro i3 h3_ hc70_0 hc70_1 hc70_2 hc70_3 hc70_4 hc70_5 hz70
                  refine X_iload_n C 3 (D (70, .iload_n 3, 1) (mg 43 rfl)) rfl rfl ?_
                  refine X_aload_n C 0 (D (71, .aload_n 0, 1) (mg 44 rfl)) rfl rfl ?_
                  refine X_get (v := .int (h3_ (y) 2)) C (y) 2 (by omega) hsy rfl rfl (by decide) inX6 fX6_18 rfl (D (72, .getfield 18, 3) (mg 45 rfl)) rfl ?_
                  refine X_ti (y := nI (s)) (hc70_1) ?_
                  refine X_icmp_ge (tgt := 105) C (D (75, .if_icmp .ge 30, 3) (mg 46 rfl)) (by decide) (fun q3 => ?_) (fun q3 => ?_)
                  · skip
                    have q3 : (i3) ≥ (s) := by have z := (nI_leI (a := (s)) (b := (i3)) (by omega) (by omega)).mp q3; omega
                    refine X_iinc (v := nI (e + 1)) (ls' := [some (.ref (wA w (y))), some (.int (nI (K))), some (.int (nI (e + 1))), some (.int (nI (i3)))]) C (D (105, .iinc 2 1, 3) (mg 64 rfl)) rfl (nI_add (e) 1) rfl ?_
                    refine X_goto (tgt := 58) C (D (108, .goto (-50), 3) (mg 65 rfl)) (by decide) ?_
                    refine X_los (ls' := [some (.ref (wA w (y))), some (.int (nI (K))), some (.int (nI (e + 1))), none]) (by simp [lsub]) ?_
                    refine X_eq (ls' := [some (.ref (wA w (y))), some (.int (nI (K))), some (.int (nI (e + 1))), none]) (st' := []) (h' := h3_) (g' := g) rfl rfl rfl rfl ?_
                    exact ih58 (e + 1) (h3_) (by omega) (hc70_1) hc70_2 (rs_s hc70_3 hc70_4 (by omega)) hc70_5 (by omega)
                  · skip
                    have q3 : (i3) < (s) := by have z : ¬ ((s) ≤ (i3)) := fun u => q3 ((nI_leI (a := (s)) (b := (i3)) (by omega) (by omega)).mpr u); omega
                    refine X_aload_n C 0 (D (78, .aload_n 0, 1) (mg 47 rfl)) rfl rfl ?_
                    refine X_get (v := .ref (wA w (y + 2))) C (y) 1 (by omega) hsy rfl rfl (by decide) inX6 fX6_15 rfl (D (79, .getfield 15, 3) (mg 48 rfl)) rfl ?_
                    refine X_iload_n C 2 (D (82, .iload_n 2, 1) (mg 49 rfl)) rfl rfl ?_
                    refine X_iconst (v := nI (5)) C (D (83, .iconst 5, 1) (mg 50 rfl)) (by decide) ?_
                    refine X_imul C (D (84, .imul, 1) (mg 51 rfl)) ?_
                    refine X_ti (y := nI ((e) * (5))) (pk_mul (e) (5)) ?_
                    refine X_iload_n C 3 (D (85, .iload_n 3, 1) (mg 52 rfl)) rfl rfl ?_
                    refine X_iadd C (D (86, .iadd, 1) (mg 53 rfl)) ?_
                    refine X_ti (y := nI ((e) * (5) + i3)) (nI_add ((e) * (5)) (i3)) ?_
                    refine X_aload_n C 0 (D (87, .aload_n 0, 1) (mg 54 rfl)) rfl rfl ?_
                    refine X_aload_n C 0 (D (88, .aload_n 0, 1) (mg 55 rfl)) rfl rfl ?_
                    refine X_get (v := .ref (wA w (y + 1))) C (y) 0 (by omega) hsy rfl rfl (by decide) inX6 fX6_9 rfl (D (89, .getfield 9, 3) (mg 56 rfl)) rfl ?_
                    refine X_iload_n C 3 (D (92, .iload_n 3, 1) (mg 57 rfl)) rfl rfl ?_
                    refine X_iald (v := h3_ (y + 1) (i3)) C (y + 1) (by omega) hy1 (vp_in_nI (by omega) (by omega)) (D (93, .iaload, 1) (mg 58 rfl)) (by rw [nI_clamp (by omega)]) ?_
                    refine X_ti (y := nI (T (i3))) (hc70_2 i3 (by omega)) ?_
                    have hTi_ := hT i3 (by omega)
                    refine X_iload_n C 2 (D (94, .iload_n 2, 1) (mg 59 rfl)) rfl rfl ?_
                    refine X_cV (As := [.int (nI (T (i3))), .int (nI (e))]) (st := [.int (nI ((e) * (5) + i3)), .ref (wA w (y + 2))]) C (post := _) (y) (by omega) hsy rfl (cx_X6_fewest hw (y := y) hY (s := s) hs (T := T) hT hD (c := T (i3)) (S := e) (by omega) (by omega) h3_ g hc70_1 hc70_2 hc70_3) kX6_22 (by decide) (by decide) rfl rfl (Nat.le_of_ble_eq_true rfl) (D (95, .invokevirtual 22, 3) (mg 60 rfl)) rfl (fun v6 H4 G5 hv6 => ?_)
                    obtain ⟨rfl, rfl, rfl⟩ := hv6
                    show X k w _ 98 [some (.ref (wA w (y))), some (.int (nI (K))), some (.int (nI (e))), some (.int (nI (i3)))] [.int (nI (FW T s (T (i3)) (e))), .int (nI ((e) * (5) + i3)), .ref (wA w (y + 2))] h3_ g
                    refine X_iast (j := (e) * (5) + i3) C (y + 2) (by omega) hy2 (vp_in_nI (by omega) (by omega)) (D (98, .iastore, 1) (mg 61 rfl)) (nI_clamp (by omega)) ?_
                    refine X_iinc (v := nI (i3 + 1)) (ls' := [some (.ref (wA w (y))), some (.int (nI (K))), some (.int (nI (e))), some (.int (nI (i3 + 1)))]) C (D (99, .iinc 3 1, 3) (mg 62 rfl)) rfl (nI_add (i3) 1) rfl ?_
                    refine X_goto (tgt := 70) C (D (102, .goto (-32), 3) (mg 63 rfl)) (by decide) ?_
                    refine X_eq (ls' := [some (.ref (wA w (y))), some (.int (nI (K))), some (.int (nI (e))), some (.int (nI (i3 + 1)))]) (st' := []) (h' := (u2 h3_ (y + 2) ((e) * (5) + i3) (nI (FW T s (T (i3)) (e))))) (g' := g) rfl rfl rfl rfl ?_
                    exact ih70 (i3 + 1) ((u2 h3_ (y + 2) ((e) * (5) + i3) (nI (FW T s (T (i3)) (e))))) (by omega) (((u2_p _ _ _ _ (by omega))).trans hc70_1) (fun k hk => by rw [u2_ne _ _ _ _ (by omega)]; exact hc70_2 k hk) (fun e2 he i hi => by rw [u2_ne _ _ _ _ (by omega)]; exact hc70_3 e2 he i hi) (fun i hi => rw_s hc70_4 i hi) (fun q i z1 z2 z3 => by rw [u2_ne _ _ _ _ (by omega)]; exact hc70_5 q i z1 z2 z3) (by omega)
              refine X_eq (ls' := [some (.ref (wA w (y))), some (.int (nI (K))), some (.int (nI (e))), some (.int (nI (0)))]) (st' := []) (h' := h2_) (g' := g) rfl rfl rfl rfl ?_
              exact lp70 _ (0) (h2_) (by omega) (hc58_1) hc58_2 hc58_3 (fun i hi => absurd hi (by omega)) (fun q i z1 z2 z3 => by skip; exact hc58_4 q i z1 z2 z3) (Nat.le_refl _)
        refine X_eq (ls' := [some (.ref (wA w (y))), some (.int (nI (K))), some (.int (nI (0))), none]) (st' := []) (h' := h1_) (g' := g) rfl rfl rfl rfl ?_
        exact lp58 _ (0) (h1_) (by omega) (by rw [hsE, ← hbe_]; exact (hc7_1)) (fun k hk => by rw [hTE]; exact tdP_e hc7_3 (by omega) hbe_ k (by omega)) (fun e2 he => absurd he (by omega)) (fun q i z1 z2 z3 => by skip; exact hc7_2 q i z1 z2 z3) (Nat.le_refl _)
      · skip
        have q1 : (j) < (25) := by have z : ¬ ((25) ≤ (j)) := fun u => q1 ((nI_leI (a := (25)) (b := (j)) (by omega) (by omega)).mpr u); omega
        have hbl_ := bs_le K j
        refine X_aload_n C 0 (D (13, .aload_n 0, 1) (mg 8 rfl)) rfl rfl ?_
        refine X_get (v := .int (h1_ (y) 2)) C (y) 2 (by omega) hsy rfl rfl (by decide) inX6 fX6_18 rfl (D (14, .getfield 18, 3) (mg 9 rfl)) rfl ?_
        refine X_ti (y := nI (bs K j)) (hc7_1) ?_
        refine X_iconst (v := nI (5)) C (D (17, .iconst 5, 1) (mg 10 rfl)) (by decide) ?_
        refine X_icmp_ge (tgt := 56) C (D (18, .if_icmp .ge 38, 3) (mg 11 rfl)) (by decide) (fun q7 => ?_) (fun q7 => ?_)
        · skip
          have q7 : (bs K j) ≥ (5) := by have z := (nI_leI (a := (5)) (b := (bs K j)) (by omega) (by omega)).mp q7; omega
          have hbe_ : bs K j = bs K 25 := by (have z1 := bs_mono K 25 (i := j) (by omega); omega)
          refine X_iconst (v := nI (0)) C (D (56, .iconst 0, 1) (mg 33 rfl)) (by decide) ?_
          refine X_istore_n (ls' := [some (.ref (wA w (y))), some (.int (nI (K))), some (.int (nI (0))), none]) C 2 (D (57, .istore_n 2, 1) (mg 34 rfl)) rfl (Nat.le_of_ble_eq_true rfl) rfl ?_
          have lp58 : ∀ (nn58 : Nat) (e : Nat) (h2_ : xI), (e ≤ p2 s) → (h2_ y 2 = nI s) → (∀ k, k < s → h2_ (y + 1) k = nI (T k)) → (∀ e2, e2 < e → ∀ i, i < s → h2_ (y + 2) (e2 * 5 + i) = nI (FW T s (T i) e2)) → (∀ q i, q ≠ y → q ≠ y + 1 → q ≠ y + 2 → h2_ q i = h q i) → p2 s + 1 - e ≤ nn58 → X k w (Zq k w (pQv (fun h' => (∀ q i, q ≠ y → q ≠ y + 1 → q ≠ y + 2 → h' q i = h q i) ∧ h' y 2 = nI (bs K 25) ∧ (∀ k, k < bs K 25 → h' (y + 1) k = nI (tdK K 25 k)) ∧ ∀ e, e < p2 (bs K 25) → ∀ i, i < bs K 25 → h' (y + 2) (e * 5 + i) = nI (FW (tdK K 25) (bs K 25) (tdK K 25 i) e)))) 58 [some (.ref (wA w (y))), some (.int (nI (K))), some (.int (nI (e))), none] [] h2_ g := by
            intro nn58
            induction nn58 with
            | zero => intro e h2_ hc58_0 hc58_1 hc58_2 hc58_3 hc58_4 hz; exact absurd hz (by omega)
            | succ nn58 ih58 =>
              intro e h2_ hc58_0 hc58_1 hc58_2 hc58_3 hc58_4 hz58
              refine X_iload_n C 2 (D (58, .iload_n 2, 1) (mg 35 rfl)) rfl rfl ?_
              refine X_iconst (v := nI (1)) C (D (59, .iconst 1, 1) (mg 36 rfl)) (by decide) ?_
              refine X_aload_n C 0 (D (60, .aload_n 0, 1) (mg 37 rfl)) rfl rfl ?_
              refine X_get (v := .int (h2_ (y) 2)) C (y) 2 (by omega) hsy rfl rfl (by decide) inX6 fX6_18 rfl (D (61, .getfield 18, 3) (mg 38 rfl)) rfl ?_
              refine X_ti (y := nI (s)) (hc58_1) ?_
              refine X_ishl C (D (64, .ishl, 1) (mg 39 rfl)) ?_
              refine X_ti (y := nI (p2 (s))) (p2_e _ (by omega)).2.2 ?_
              refine X_icmp_ge (tgt := 111) C (D (65, .if_icmp .ge 46, 3) (mg 40 rfl)) (by decide) (fun q8 => ?_) (fun q8 => ?_)
              · skip
                have q8 : (e) ≥ (p2 (s)) := by have z := (nI_leI (a := (p2 (s))) (b := (e)) (by omega) (by omega)).mp q8; omega
                exact X_vret C (D (111, .return_, 1) (mg 66 rfl)) (by rw [← hsE, ← hTE]; exact ⟨rfl, hc58_4, hc58_1, hc58_2, fun e2 he => hc58_3 e2 (by omega)⟩)
              · skip
                have q8 : (e) < (p2 (s)) := by have z : ¬ ((p2 (s)) ≤ (e)) := fun u => q8 ((nI_leI (a := (p2 (s))) (b := (e)) (by omega) (by omega)).mpr u); omega
                refine X_iconst (v := nI (0)) C (D (68, .iconst 0, 1) (mg 41 rfl)) (by decide) ?_
                refine X_istore_n (ls' := [some (.ref (wA w (y))), some (.int (nI (K))), some (.int (nI (e))), some (.int (nI (0)))]) C 3 (D (69, .istore_n 3, 1) (mg 42 rfl)) rfl (Nat.le_of_ble_eq_true rfl) rfl ?_
                have lp70 : ∀ (nn70 : Nat) (i3 : Nat) (h3_ : xI), (i3 ≤ s) → (h3_ y 2 = nI s) → (∀ k, k < s → h3_ (y + 1) k = nI (T k)) → (∀ e2, e2 < e → ∀ i, i < s → h3_ (y + 2) (e2 * 5 + i) = nI (FW T s (T i) e2)) → (∀ i, i < i3 → h3_ (y + 2) (e * 5 + i) = nI (FW T s (T i) e)) → (∀ q i, q ≠ y → q ≠ y + 1 → q ≠ y + 2 → h3_ q i = h q i) → 6 - i3 ≤ nn70 → X k w (Zq k w (pQv (fun h' => (∀ q i, q ≠ y → q ≠ y + 1 → q ≠ y + 2 → h' q i = h q i) ∧ h' y 2 = nI (bs K 25) ∧ (∀ k, k < bs K 25 → h' (y + 1) k = nI (tdK K 25 k)) ∧ ∀ e, e < p2 (bs K 25) → ∀ i, i < bs K 25 → h' (y + 2) (e * 5 + i) = nI (FW (tdK K 25) (bs K 25) (tdK K 25 i) e)))) 70 [some (.ref (wA w (y))), some (.int (nI (K))), some (.int (nI (e))), some (.int (nI (i3)))] [] h3_ g := by
                  intro nn70
                  induction nn70 with
                  | zero => intro i3 h3_ hc70_0 hc70_1 hc70_2 hc70_3 hc70_4 hc70_5 hz; exact absurd hz (by omega)
                  | succ nn70 ih70 =>
                    intro i3 h3_ hc70_0 hc70_1 hc70_2 hc70_3 hc70_4 hc70_5 hz70
                    refine X_iload_n C 3 (D (70, .iload_n 3, 1) (mg 43 rfl)) rfl rfl ?_
                    refine X_aload_n C 0 (D (71, .aload_n 0, 1) (mg 44 rfl)) rfl rfl ?_
                    refine X_get (v := .int (h3_ (y) 2)) C (y) 2 (by omega) hsy rfl rfl (by decide) inX6 fX6_18 rfl (D (72, .getfield 18, 3) (mg 45 rfl)) rfl ?_
                    refine X_ti (y := nI (s)) (hc70_1) ?_
                    refine X_icmp_ge (tgt := 105) C (D (75, .if_icmp .ge 30, 3) (mg 46 rfl)) (by decide) (fun q9 => ?_) (fun q9 => ?_)
                    · skip
                      have q9 : (i3) ≥ (s) := by have z := (nI_leI (a := (s)) (b := (i3)) (by omega) (by omega)).mp q9; omega
                      refine X_iinc (v := nI (e + 1)) (ls' := [some (.ref (wA w (y))), some (.int (nI (K))), some (.int (nI (e + 1))), some (.int (nI (i3)))]) C (D (105, .iinc 2 1, 3) (mg 64 rfl)) rfl (nI_add (e) 1) rfl ?_
                      refine X_goto (tgt := 58) C (D (108, .goto (-50), 3) (mg 65 rfl)) (by decide) ?_
                      refine X_los (ls' := [some (.ref (wA w (y))), some (.int (nI (K))), some (.int (nI (e + 1))), none]) (by simp [lsub]) ?_
                      refine X_eq (ls' := [some (.ref (wA w (y))), some (.int (nI (K))), some (.int (nI (e + 1))), none]) (st' := []) (h' := h3_) (g' := g) rfl rfl rfl rfl ?_
                      exact ih58 (e + 1) (h3_) (by omega) (hc70_1) hc70_2 (rs_s hc70_3 hc70_4 (by omega)) hc70_5 (by omega)
                    · skip
                      have q9 : (i3) < (s) := by have z : ¬ ((s) ≤ (i3)) := fun u => q9 ((nI_leI (a := (s)) (b := (i3)) (by omega) (by omega)).mpr u); omega
                      refine X_aload_n C 0 (D (78, .aload_n 0, 1) (mg 47 rfl)) rfl rfl ?_
                      refine X_get (v := .ref (wA w (y + 2))) C (y) 1 (by omega) hsy rfl rfl (by decide) inX6 fX6_15 rfl (D (79, .getfield 15, 3) (mg 48 rfl)) rfl ?_
                      refine X_iload_n C 2 (D (82, .iload_n 2, 1) (mg 49 rfl)) rfl rfl ?_
                      refine X_iconst (v := nI (5)) C (D (83, .iconst 5, 1) (mg 50 rfl)) (by decide) ?_
                      refine X_imul C (D (84, .imul, 1) (mg 51 rfl)) ?_
                      refine X_ti (y := nI ((e) * (5))) (pk_mul (e) (5)) ?_
                      refine X_iload_n C 3 (D (85, .iload_n 3, 1) (mg 52 rfl)) rfl rfl ?_
                      refine X_iadd C (D (86, .iadd, 1) (mg 53 rfl)) ?_
                      refine X_ti (y := nI ((e) * (5) + i3)) (nI_add ((e) * (5)) (i3)) ?_
                      refine X_aload_n C 0 (D (87, .aload_n 0, 1) (mg 54 rfl)) rfl rfl ?_
                      refine X_aload_n C 0 (D (88, .aload_n 0, 1) (mg 55 rfl)) rfl rfl ?_
                      refine X_get (v := .ref (wA w (y + 1))) C (y) 0 (by omega) hsy rfl rfl (by decide) inX6 fX6_9 rfl (D (89, .getfield 9, 3) (mg 56 rfl)) rfl ?_
                      refine X_iload_n C 3 (D (92, .iload_n 3, 1) (mg 57 rfl)) rfl rfl ?_
                      refine X_iald (v := h3_ (y + 1) (i3)) C (y + 1) (by omega) hy1 (vp_in_nI (by omega) (by omega)) (D (93, .iaload, 1) (mg 58 rfl)) (by rw [nI_clamp (by omega)]) ?_
                      refine X_ti (y := nI (T (i3))) (hc70_2 i3 (by omega)) ?_
                      have hTi_ := hT i3 (by omega)
                      refine X_iload_n C 2 (D (94, .iload_n 2, 1) (mg 59 rfl)) rfl rfl ?_
                      refine X_cV (As := [.int (nI (T (i3))), .int (nI (e))]) (st := [.int (nI ((e) * (5) + i3)), .ref (wA w (y + 2))]) C (post := _) (y) (by omega) hsy rfl (cx_X6_fewest hw (y := y) hY (s := s) hs (T := T) hT hD (c := T (i3)) (S := e) (by omega) (by omega) h3_ g hc70_1 hc70_2 hc70_3) kX6_22 (by decide) (by decide) rfl rfl (Nat.le_of_ble_eq_true rfl) (D (95, .invokevirtual 22, 3) (mg 60 rfl)) rfl (fun v12 H10 G11 hv12 => ?_)
                      obtain ⟨rfl, rfl, rfl⟩ := hv12
                      show X k w _ 98 [some (.ref (wA w (y))), some (.int (nI (K))), some (.int (nI (e))), some (.int (nI (i3)))] [.int (nI (FW T s (T (i3)) (e))), .int (nI ((e) * (5) + i3)), .ref (wA w (y + 2))] h3_ g
                      refine X_iast (j := (e) * (5) + i3) C (y + 2) (by omega) hy2 (vp_in_nI (by omega) (by omega)) (D (98, .iastore, 1) (mg 61 rfl)) (nI_clamp (by omega)) ?_
                      refine X_iinc (v := nI (i3 + 1)) (ls' := [some (.ref (wA w (y))), some (.int (nI (K))), some (.int (nI (e))), some (.int (nI (i3 + 1)))]) C (D (99, .iinc 3 1, 3) (mg 62 rfl)) rfl (nI_add (i3) 1) rfl ?_
                      refine X_goto (tgt := 70) C (D (102, .goto (-32), 3) (mg 63 rfl)) (by decide) ?_
                      refine X_eq (ls' := [some (.ref (wA w (y))), some (.int (nI (K))), some (.int (nI (e))), some (.int (nI (i3 + 1)))]) (st' := []) (h' := (u2 h3_ (y + 2) ((e) * (5) + i3) (nI (FW T s (T (i3)) (e))))) (g' := g) rfl rfl rfl rfl ?_
                      exact ih70 (i3 + 1) ((u2 h3_ (y + 2) ((e) * (5) + i3) (nI (FW T s (T (i3)) (e))))) (by omega) (((u2_p _ _ _ _ (by omega))).trans hc70_1) (fun k hk => by rw [u2_ne _ _ _ _ (by omega)]; exact hc70_2 k hk) (fun e2 he i hi => by rw [u2_ne _ _ _ _ (by omega)]; exact hc70_3 e2 he i hi) (fun i hi => rw_s hc70_4 i hi) (fun q i z1 z2 z3 => by rw [u2_ne _ _ _ _ (by omega)]; exact hc70_5 q i z1 z2 z3) (by omega)
                refine X_eq (ls' := [some (.ref (wA w (y))), some (.int (nI (K))), some (.int (nI (e))), some (.int (nI (0)))]) (st' := []) (h' := h2_) (g' := g) rfl rfl rfl rfl ?_
                exact lp70 _ (0) (h2_) (by omega) (hc58_1) hc58_2 hc58_3 (fun i hi => absurd hi (by omega)) (fun q i z1 z2 z3 => by skip; exact hc58_4 q i z1 z2 z3) (Nat.le_refl _)
          refine X_eq (ls' := [some (.ref (wA w (y))), some (.int (nI (K))), some (.int (nI (0))), none]) (st' := []) (h' := h1_) (g' := g) rfl rfl rfl rfl ?_
          exact lp58 _ (0) (h1_) (by omega) (by rw [hsE, ← hbe_]; exact (hc7_1)) (fun k hk => by rw [hTE]; exact tdP_e hc7_3 (by omega) hbe_ k (by omega)) (fun e2 he => absurd he (by omega)) (fun q i z1 z2 z3 => by skip; exact hc7_2 q i z1 z2 z3) (Nat.le_refl _)
        · skip
          have q7 : (bs K j) < (5) := by have z : ¬ ((5) ≤ (bs K j)) := fun u => q7 ((nI_leI (a := (5)) (b := (bs K j)) (by omega) (by omega)).mpr u); omega
          refine X_iload_n C 1 (D (21, .iload_n 1, 1) (mg 12 rfl)) rfl rfl ?_
          refine X_iload_n C 2 (D (22, .iload_n 2, 1) (mg 13 rfl)) rfl rfl ?_
          refine X_ishr C (D (23, .ishr, 1) (mg 14 rfl)) ?_
          refine X_iconst (v := nI (1)) C (D (24, .iconst 1, 1) (mg 15 rfl)) (by decide) ?_
          refine X_iand C (D (25, .iand, 1) (mg 16 rfl)) ?_
          refine X_iconst (v := nI (1)) C (D (26, .iconst 1, 1) (mg 17 rfl)) (by decide) ?_
          refine X_icmp_ne (tgt := 50) C (D (27, .if_icmp .ne 23, 3) (mg 18 rfl)) (by decide) (fun q13 => ?_) (fun q13 => ?_)
          · skip
            have hb1_ : ¬ K / 2 ^ j % 2 = 1 := fun u_ => q13 ((has_n (by omega) (by omega)).mpr u_)
            have hb5_ : bs K (j + 1) = bs K j := by show bs K j + K / 2 ^ j % 2 = _; omega
            refine X_iinc (v := nI (j + 1)) (ls' := [some (.ref (wA w (y))), some (.int (nI (K))), some (.int (nI (j + 1))), none]) C (D (50, .iinc 2 1, 3) (mg 31 rfl)) rfl (nI_add (j) 1) rfl ?_
            refine X_goto (tgt := 7) C (D (53, .goto (-46), 3) (mg 32 rfl)) (by decide) ?_
            refine X_eq (ls' := [some (.ref (wA w (y))), some (.int (nI (K))), some (.int (nI (j + 1))), none]) (st' := []) (h' := h1_) (g' := g) rfl rfl rfl rfl ?_
            exact ih7 (j + 1) (h1_) (by omega) (by rw [hb5_]; exact (hc7_1)) (fun q i z1 z2 z3 => by skip; exact hc7_2 q i z1 z2 z3) (tdP_k hc7_3 hb1_) (by omega)
          · skip
            have hb1_ : K / 2 ^ j % 2 = 1 := (has_n (by omega) (by omega)).mp q13
            have hb5_ : bs K (j + 1) = bs K j + 1 := by show bs K j + K / 2 ^ j % 2 = _; omega
            refine X_aload_n C 0 (D (30, .aload_n 0, 1) (mg 19 rfl)) rfl rfl ?_
            refine X_get (v := .ref (wA w (y + 1))) C (y) 0 (by omega) hsy rfl rfl (by decide) inX6 fX6_9 rfl (D (31, .getfield 9, 3) (mg 20 rfl)) rfl ?_
            refine X_aload_n C 0 (D (34, .aload_n 0, 1) (mg 21 rfl)) rfl rfl ?_
            refine X_get (v := .int (h1_ (y) 2)) C (y) 2 (by omega) hsy rfl rfl (by decide) inX6 fX6_18 rfl (D (35, .getfield 18, 3) (mg 22 rfl)) rfl ?_
            refine X_ti (y := nI (bs K j)) (hc7_1) ?_
            refine X_iload_n C 2 (D (38, .iload_n 2, 1) (mg 23 rfl)) rfl rfl ?_
            refine X_iast (j := bs K j) C (y + 1) (by omega) hy1 (vp_in_nI (by omega) (by omega)) (D (39, .iastore, 1) (mg 24 rfl)) (nI_clamp (by omega)) ?_
            refine X_aload_n C 0 (D (40, .aload_n 0, 1) (mg 25 rfl)) rfl rfl ?_
            refine X_dup C (D (41, .dup, 1) (mg 26 rfl)) rfl ?_
            refine X_get (v := .int ((u2 h1_ (y + 1) (bs K j) (nI (j))) (y) 2)) C (y) 2 (by omega) hsy rfl rfl (by decide) inX6 fX6_18 rfl (D (42, .getfield 18, 3) (mg 27 rfl)) rfl ?_
            refine X_ti (y := nI (bs K j)) (((u2_p _ _ _ _ (by omega))).trans hc7_1) ?_
            refine X_iconst (v := nI (1)) C (D (45, .iconst 1, 1) (mg 28 rfl)) (by decide) ?_
            refine X_iadd C (D (46, .iadd, 1) (mg 29 rfl)) ?_
            refine X_ti (y := nI (bs K j + 1)) (nI_add (bs K j) (1)) ?_
            refine X_putI C (y) 2 tyX6 tyX6_ok nmX6 (by omega) hsy rfl rfl (by decide) inX6 fX6_18 rfl rfl (by decide +kernel) (D (47, .putfield 18, 3) (mg 30 rfl)) ?_
            refine X_iinc (v := nI (j + 1)) (ls' := [some (.ref (wA w (y))), some (.int (nI (K))), some (.int (nI (j + 1))), none]) C (D (50, .iinc 2 1, 3) (mg 31 rfl)) rfl (nI_add (j) 1) rfl ?_
            refine X_goto (tgt := 7) C (D (53, .goto (-46), 3) (mg 32 rfl)) (by decide) ?_
            refine X_eq (ls' := [some (.ref (wA w (y))), some (.int (nI (K))), some (.int (nI (j + 1))), none]) (st' := []) (h' := (u2 (u2 h1_ (y + 1) (bs K j) (nI (j))) (y) 2 (nI (bs K j + 1)))) (g' := g) rfl rfl rfl rfl ?_
            exact ih7 (j + 1) ((u2 (u2 h1_ (y + 1) (bs K j) (nI (j))) (y) 2 (nI (bs K j + 1)))) (by omega) (by rw [hb5_]; exact ((u2_s _ _ _ _))) (fun q i z1 z2 z3 => by rw [u2_ne _ _ _ _ (by omega), u2_ne _ _ _ _ (by omega)]; exact hc7_2 q i z1 z2 z3) (fun i hi hb2 => by rw [u2_p _ _ _ _ (by omega)]; exact tdP_s hc7_3 hb1_ i hi hb2) (by omega)
  refine X_eq (ls' := [some (.ref (wA w (y))), some (.int (nI (K))), some (.int (nI (0))), none]) (st' := []) (h' := (u2 h (y) 2 (nI (0)))) (g' := g) rfl rfl rfl rfl ?_
  exact lp7 _ (0) ((u2 h (y) 2 (nI (0)))) (by omega) ((u2_s _ _ _ _)) (fun q i z1 z2 z3 => by rw [u2_ne _ _ _ _ (by omega)]) (fun i hi => absurd hi (by omega)) (Nat.le_refl _)
theorem us_k : ∀ k, k < 31 → ((k % 4294967296) &&& 31) % 32 = k := by decide
theorem us_n {n k : Nat} (hn : n < 2147483648) (hk : k < 31) : ((nI n).toUInt32 >>> ((nI k).toUInt32 &&& Int32.toUInt32 31)).toInt32 = nI (n / 2 ^ k) := by
  apply Int32.toBitVec_inj.mp
  apply BitVec.eq_of_toNat_eq
  show ((nI n).toUInt32 >>> ((nI k).toUInt32 &&& Int32.toUInt32 31)).toNat = (BitVec.ofNat 32 (n / 2 ^ k)).toNat
  rw [UInt32.toNat_shiftRight, UInt32.toNat_and]
  show (n % 4294967296) >>> (((k % 4294967296) &&& 31) % 32) = (n / 2 ^ k) % 4294967296
  have h1 := Nat.div_le_self n (2 ^ k)
  rw [us_k k hk, Nat.mod_eq_of_lt (show n < 4294967296 by omega), Nat.shiftRight_eq_div_pow, Nat.mod_eq_of_lt (show n / 2 ^ k < 4294967296 by omega)]
theorem and_l {a b : Nat} : a &&& b ≤ a := Nat.and_le_left
theorem and_r {a b : Nat} : a &&& b ≤ b := Nat.and_le_right
set_option maxHeartbeats 4000000 in
set_option maxRecDepth 100000 in
theorem cx_J6_bitCount_0f7a4 {l : Launch} {w : Kw} (hw : wOk w) {K : Nat} (hK : K < 33554432) (h : xI) (g : xJ)  : Ct l w yJ6_bitCount_0f7a4 cJ6_bitCount_0f7a4 1 (some .int) 0 0 [.int (nI (K))] h g (px (some (.int (nI (bs K 25)))) h g) := by
  refine Ct_of (ls := [some (.int (nI (K)))]) (by decide) hw (Nat.le_of_ble_eq_true rfl) rfl (fun k hkl C => ?_)
  have C : Cx k w cJ6_bitCount_0f7a4 RJ6 1 (some .int) 0 0 := C
  have D := dtJ6_bitCount_0f7a4
  subst hkl
  obtain ⟨A1, hA1⟩ : ∃ z, z = K / 2 &&& 1431655765 := ⟨_, rfl⟩
  have lA1 : A1 ≤ K / 2 := by rw [hA1]; exact and_l
  obtain ⟨X1, hX1⟩ : ∃ z, z = K - A1 := ⟨_, rfl⟩
  obtain ⟨A2, hA2⟩ : ∃ z, z = X1 &&& 858993459 := ⟨_, rfl⟩
  have lA2 : A2 ≤ X1 := by rw [hA2]; exact and_l
  obtain ⟨B2, hB2⟩ : ∃ z, z = X1 / 4 &&& 858993459 := ⟨_, rfl⟩
  have lB2 : B2 ≤ X1 / 4 := by rw [hB2]; exact and_l
  obtain ⟨X2, hX2⟩ : ∃ z, z = A2 + B2 := ⟨_, rfl⟩
  obtain ⟨X3, hX3⟩ : ∃ z, z = (X2 + X2 / 16) &&& 252645135 := ⟨_, rfl⟩
  have lX3 : X3 ≤ 252645135 := by rw [hX3]; exact and_r
  obtain ⟨X4, hX4⟩ : ∃ z, z = X3 + X3 / 256 := ⟨_, rfl⟩
  obtain ⟨X5, hX5⟩ : ∃ z, z = X4 + X4 / 65536 := ⟨_, rfl⟩
  have hbc : X5 &&& 63 = bs K 25 := by (rw [← bcK_e hK, hX5, hX4, hX3, hX2, hB2, hA2, hX1, hA1]; rfl)
  refine X_iload_n C 0 (D (0, .iload_n 0, 1) (mg 0 rfl)) rfl rfl ?_
  refine X_iload_n C 0 (D (1, .iload_n 0, 1) (mg 1 rfl)) rfl rfl ?_
  refine X_iconst (v := nI (1)) C (D (2, .iconst 1, 1) (mg 2 rfl)) (by decide) ?_
  refine X_iushr C (D (3, .iushr, 1) (mg 3 rfl)) ?_
  refine X_ti (y := nI (K / 2)) (us_n (n := K) (k := 1) (by omega) (by omega)) ?_
  refine X_ldcw C (D (4, .ldc_w 265, 3) (mg 4 rfl)) vJ6_265 ?_
  refine X_ti (y := nI (1431655765)) (by decide) ?_
  refine X_iand C (D (7, .iand, 1) (mg 5 rfl)) ?_
  refine X_ti (y := nI (A1)) (by rw [nI_and, hA1]) ?_
  refine X_isub C (D (8, .isub, 1) (mg 6 rfl)) ?_
  refine X_ti (y := nI (X1)) (by rw [hX1]; exact pk_sub (by omega)) ?_
  refine X_istore_n (ls' := [some (.int (nI (X1)))]) C 0 (D (9, .istore_n 0, 1) (mg 7 rfl)) rfl (Nat.le_of_ble_eq_true rfl) rfl ?_
  refine X_iload_n C 0 (D (10, .iload_n 0, 1) (mg 8 rfl)) rfl rfl ?_
  refine X_ldcw C (D (11, .ldc_w 266, 3) (mg 9 rfl)) vJ6_266 ?_
  refine X_ti (y := nI (858993459)) (by decide) ?_
  refine X_iand C (D (14, .iand, 1) (mg 10 rfl)) ?_
  refine X_ti (y := nI (A2)) (by rw [nI_and, hA2]) ?_
  refine X_iload_n C 0 (D (15, .iload_n 0, 1) (mg 11 rfl)) rfl rfl ?_
  refine X_iconst (v := nI (2)) C (D (16, .iconst 2, 1) (mg 12 rfl)) (by decide) ?_
  refine X_iushr C (D (17, .iushr, 1) (mg 13 rfl)) ?_
  refine X_ti (y := nI (X1 / 4)) (us_n (n := X1) (k := 2) (by omega) (by omega)) ?_
  refine X_ldcw C (D (18, .ldc_w 266, 3) (mg 14 rfl)) vJ6_266 ?_
  refine X_ti (y := nI (858993459)) (by decide) ?_
  refine X_iand C (D (21, .iand, 1) (mg 15 rfl)) ?_
  refine X_ti (y := nI (B2)) (by rw [nI_and, hB2]) ?_
  refine X_iadd C (D (22, .iadd, 1) (mg 16 rfl)) ?_
  refine X_ti (y := nI (X2)) (by rw [hX2]; exact nI_add _ _) ?_
  refine X_istore_n (ls' := [some (.int (nI (X2)))]) C 0 (D (23, .istore_n 0, 1) (mg 17 rfl)) rfl (Nat.le_of_ble_eq_true rfl) rfl ?_
  refine X_iload_n C 0 (D (24, .iload_n 0, 1) (mg 18 rfl)) rfl rfl ?_
  refine X_iload_n C 0 (D (25, .iload_n 0, 1) (mg 19 rfl)) rfl rfl ?_
  refine X_iconst (v := nI (4)) C (D (26, .iconst 4, 1) (mg 20 rfl)) (by decide) ?_
  refine X_iushr C (D (27, .iushr, 1) (mg 21 rfl)) ?_
  refine X_ti (y := nI (X2 / 16)) (us_n (n := X2) (k := 4) (by omega) (by omega)) ?_
  refine X_iadd C (D (28, .iadd, 1) (mg 22 rfl)) ?_
  refine X_ti (y := nI (X2 + X2 / 16)) (nI_add (X2) (X2 / 16)) ?_
  refine X_ldcw C (D (29, .ldc_w 267, 3) (mg 23 rfl)) vJ6_267 ?_
  refine X_ti (y := nI (252645135)) (by decide) ?_
  refine X_iand C (D (32, .iand, 1) (mg 24 rfl)) ?_
  refine X_ti (y := nI (X3)) (by rw [nI_and, hX3]) ?_
  refine X_istore_n (ls' := [some (.int (nI (X3)))]) C 0 (D (33, .istore_n 0, 1) (mg 25 rfl)) rfl (Nat.le_of_ble_eq_true rfl) rfl ?_
  refine X_iload_n C 0 (D (34, .iload_n 0, 1) (mg 26 rfl)) rfl rfl ?_
  refine X_iload_n C 0 (D (35, .iload_n 0, 1) (mg 27 rfl)) rfl rfl ?_
  refine X_bipush (v := nI (8)) C (D (36, .bipush 8, 2) (mg 28 rfl)) (by decide) ?_
  refine X_iushr C (D (38, .iushr, 1) (mg 29 rfl)) ?_
  refine X_ti (y := nI (X3 / 256)) (us_n (n := X3) (k := 8) (by omega) (by omega)) ?_
  refine X_iadd C (D (39, .iadd, 1) (mg 30 rfl)) ?_
  refine X_ti (y := nI (X4)) (by rw [hX4]; exact nI_add _ _) ?_
  refine X_istore_n (ls' := [some (.int (nI (X4)))]) C 0 (D (40, .istore_n 0, 1) (mg 31 rfl)) rfl (Nat.le_of_ble_eq_true rfl) rfl ?_
  refine X_iload_n C 0 (D (41, .iload_n 0, 1) (mg 32 rfl)) rfl rfl ?_
  refine X_iload_n C 0 (D (42, .iload_n 0, 1) (mg 33 rfl)) rfl rfl ?_
  refine X_bipush (v := nI (16)) C (D (43, .bipush 16, 2) (mg 34 rfl)) (by decide) ?_
  refine X_iushr C (D (45, .iushr, 1) (mg 35 rfl)) ?_
  refine X_ti (y := nI (X4 / 65536)) (us_n (n := X4) (k := 16) (by omega) (by omega)) ?_
  refine X_iadd C (D (46, .iadd, 1) (mg 36 rfl)) ?_
  refine X_ti (y := nI (X5)) (by rw [hX5]; exact nI_add _ _) ?_
  refine X_istore_n (ls' := [some (.int (nI (X5)))]) C 0 (D (47, .istore_n 0, 1) (mg 37 rfl)) rfl (Nat.le_of_ble_eq_true rfl) rfl ?_
  refine X_iload_n C 0 (D (48, .iload_n 0, 1) (mg 38 rfl)) rfl rfl ?_
  refine X_bipush (v := nI (63)) C (D (49, .bipush 63, 2) (mg 39 rfl)) (by decide) ?_
  refine X_iand C (D (51, .iand, 1) (mg 40 rfl)) ?_
  refine X_ti (y := nI (bs K 25)) (by rw [nI_and, hbc]) ?_
  exact X_iret C (D (52, .ireturn, 1) (mg 41 rfl)) ⟨rfl, rfl, rfl⟩
def wyB (T : Nat → Nat) (N : Nat) (a y : Int32) : Prop := (a = (-1 : Int32) → y = nI (FW T N 0 (woF T 0 N (p2 N - 1)))) ∧ (∀ k, k < 2147483648 → a = nI k → k < FW T N 0 (woF T 0 N (p2 N - 1)) → ∃ i, y = nI i ∧ ksN T N k 0 (woF T 0 N (p2 N - 1)) i) ∧ (¬ a = (-1 : Int32) → nI (FW T N 0 (woF T 0 N (p2 N - 1))) ≤ a → y = (-5 : Int32))
abbrev okW (a1 a2 : Int32) : Prop := (0 ≤ a1.toInt ∧ a1.toInt < 33554432) ∧ bs a1.toInt.toNat 25 ≤ 5 ∧ -1 ≤ a2.toInt
def wyR (a1 a2 y : Int32) : Prop := (okW a1 a2 → wyB (tdK a1.toInt.toNat 25) (bs a1.toInt.toNat 25) a2 y) ∧ (¬ okW a1 a2 → y = (-10 : Int32))
theorem nI_tn {n : Nat} (hn : n < 2147483648) : (nI n).toInt.toNat = n := by rw [nI_i2 hn]; exact Int.toNat_natCast n
theorem wyR_t {n : Nat} {a2 y : Int32} (hn : n < 33554432) (h5 : bs n 25 ≤ 5) (h2 : -1 ≤ a2.toInt) (h : wyB (tdK n 25) (bs n 25) a2 y) : wyR (nI n) a2 y := by
  have e := nI_tn (n := n) (by omega)
  refine ⟨fun _ => by rw [e]; exact h, fun z => absurd ⟨⟨?_, ?_⟩, ?_, h2⟩ z⟩
  · rw [nI_i2 (by omega)]; omega
  · rw [nI_i2 (by omega)]; omega
  · rw [e]; exact h5
theorem wyR_f {a1 a2 : Int32} (h : ¬ okW a1 a2) : wyR a1 a2 (-10 : Int32) := ⟨fun z => absurd z h, fun _ => rfl⟩
theorem wyB_m {T : Nat → Nat} {N : Nat} : wyB T N (-1 : Int32) (nI (FW T N 0 (woF T 0 N (p2 N - 1)))) := ⟨fun _ => rfl, fun k hk e _ => absurd e.symm (nI_nm (by omega)), fun z => absurd rfl z⟩
theorem wyB_k {T : Nat → Nat} {N k i : Nat} (hF : FW T N 0 (woF T 0 N (p2 N - 1)) < 2147483648) (hk : k < FW T N 0 (woF T 0 N (p2 N - 1))) (h : ksN T N k 0 (woF T 0 N (p2 N - 1)) i) : wyB T N (nI k) (nI i) := by
  refine ⟨fun e => absurd e (nI_nm (by omega)), fun k2 hk2 e _ => ?_, fun _ e => ?_⟩
  · have : k = k2 := (nI_eq (by omega) (by omega)).mp e
    subst this
    exact ⟨i, rfl, h⟩
  · have := (nI_leI (by omega) (by omega)).mp e
    omega
theorem wyB_n {T : Nat → Nat} {N : Nat} {a : Int32} (hF : FW T N 0 (woF T 0 N (p2 N - 1)) < 2147483648) (h1 : ¬ a = (-1 : Int32)) (h2 : nI (FW T N 0 (woF T 0 N (p2 N - 1))) ≤ a) : wyB T N a (-5 : Int32) := by
  refine ⟨fun e => absurd e h1, fun k hk e h3 => ?_, fun _ _ => rfl⟩
  rw [e] at h2
  have := (nI_leI (by omega) (by omega)).mp h2
  omega
theorem FW_0s {T : Nat → Nat} {N : Nat} (hN : N ≤ 5) (hT : tOK T N) : FW T N 0 (woF T 0 N (p2 N - 1)) ≤ 40 := by
  have hp := (p2_e N (by omega)).1
  exact FW_40 hN hT (by omega) (wo3_lt hN (show p2 N - 1 < 2 ^ N from by have : p2 N = 2 ^ N := rfl; omega) (woF_3 N))
theorem wyB_u {T : Nat → Nat} {N : Nat} {a y1 y2 : Int32} (hF : FW T N 0 (woF T 0 N (p2 N - 1)) ≤ 40) (h : -1 ≤ a.toInt) (H1 : wyB T N a y1) (H2 : wyB T N a y2) : y1 = y2 := by
  obtain ⟨b1, b2, b3⟩ := H1
  obtain ⟨c1, c2, c3⟩ := H2
  by_cases z : a = (-1 : Int32)
  · rw [b1 z, c1 z]
  · by_cases z2 : nI (FW T N 0 (woF T 0 N (p2 N - 1))) ≤ a
    · rw [b3 z z2, c3 z z2]
    · have h1 : (-1 : Int32) ≤ a := by rw [Int32.le_iff_toInt_le, m1_i]; exact h
      have h3 : a < nI (FW T N 0 (woF T 0 N (p2 N - 1))) := by
        rw [Int32.lt_iff_toInt_lt]
        have : ¬ ((nI (FW T N 0 (woF T 0 N (p2 N - 1)))).toInt ≤ a.toInt) := fun u => z2 (Int32.le_iff_toInt_le.mpr u)
        omega
      obtain ⟨k, hk, e⟩ := wy_k h1 z h3 (by omega)
      obtain ⟨i, e1, k1⟩ := b2 k (by omega) e hk
      obtain ⟨j, e2, k2⟩ := c2 k (by omega) e hk
      rw [e1, e2, ksN_u k k1 k2]
theorem wyR_u {a1 a2 y1 y2 : Int32} (H1 : wyR a1 a2 y1) (H2 : wyR a1 a2 y2) : y1 = y2 := by
  by_cases q : okW a1 a2
  · exact wyB_u (FW_0s q.2.1 (tdK_ok a1.toInt.toNat)) q.2.2 (H1.1 q) (H2.1 q)
  · rw [H1.2 q, H2.2 q]
/-- as pF, a relation -/
def pFR (P : Int32 → Prop) (x : Nat) (h : xI) : Option Value → xI → xJ → Prop := fun v h' _ => (∃ y, v = some (.int y) ∧ P y) ∧ ∀ q i, x + 38 < q → h' q i = h q i
set_option maxHeartbeats 4000000 in
set_option maxRecDepth 100000 in
theorem cx_X7_way {l : Launch} {w : Kw} (hw : wOk w) {x : Nat} (hC : shC w x) (a1 a2 : Int32) (h : xI) (g : xJ) (hF : cFr x h) : Ct l w yX7_way cX7_way 4 (some .int) 5 119 [.ref (wA w (x)), .int (a1), .int (a2)] h g (pFR (wyR a1 a2) x h) := by
  refine Ct_of (ls := [some (.ref (wA w (x))), some (.int (a1)), some (.int (a2)), none]) (by decide) hw (Nat.le_of_ble_eq_true rfl) rfl (fun k hkl C => ?_)
  have C : Cx k w cX7_way RX7 4 (some .int) 5 119 := C
  have D := dtX7_way
  subst hkl
  generalize hPP : (pFR (wyR a1 a2) x h) = PP
  have hC0 := hC
  obtain ⟨hxn, hsx, hT, hsi, hTa, hTb, hsk, hNs, hY, hX, hsv⟩ := hC
  have hY2 := hY.1
  have hX2 := hX.1
  have hF0 := hF
  obtain ⟨hI, hE, hSt, hk2, hk3, hk4, hps, hse, hma, htx, hr9, hr10, hr11⟩ := hF
  have hI0 := hI
  obtain ⟨⟨⟨c0_, hc0_, hat_⟩, hpa, -, -⟩, -, -, -, -⟩ := hI
  have hI := hI0
  have hF := hF0
  refine X_iload_n C 1 (D (0, .iload_n 1, 1) (mg 0 rfl)) rfl rfl ?_
  refine X_ldc C (D (1, .ldc 163, 2) (mg 1 rfl)) vX7_163 ?_
  refine X_ti (y := nI (33554432)) (by decide) ?_
  refine X_cS (As := [.int (a1), .int (nI (33554432))]) (st := []) C (post := _) (ct_X7_isBelow hw (a1) (B := 33554432) (by decide) h g) kX7_53 (by decide) (by decide) rfl rfl (Nat.le_of_ble_eq_true rfl) (D (3, .invokestatic 53, 3) (mg 2 rfl)) rfl (fun v3 H1 G2 hv3 => ?_)
  obtain ⟨rfl, rfl, rfl⟩ := hv3
  show X k w _ 6 [some (.ref (wA w (x))), some (.int (a1)), some (.int (a2)), none] [.int (if 0 ≤ (a1).toInt ∧ (a1).toInt < ((33554432 : Nat) : Int) then 1 else 0)] h g
  refine X_if_eq (tgt := 22) C (D (6, .ifCond .eq 16, 3) (mg 3 rfl)) (by decide) (fun q4 => ?_) (fun q4 => ?_)
  · skip
    have q4 : ¬ (0 ≤ (a1).toInt ∧ (a1).toInt < ((33554432 : Nat) : Int)) := bz0.mp q4
    refine X_aload_n C 0 (D (22, .aload_n 0, 1) (mg 11 rfl)) rfl rfl ?_
    refine X_cV (As := []) (st := []) C (post := _) (x) (by omega) hsx rfl (ct_X7_refuseBadTen hw hC0 h g) kX7_169 (by decide) (by decide) rfl rfl (Nat.le_of_ble_eq_true rfl) (D (23, .invokevirtual 169, 3) (mg 12 rfl)) rfl (fun v7 H5 G6 hv7 => ?_)
    obtain ⟨rfl, rfl, rfl⟩ := hv7
    show X k w _ 26 [some (.ref (wA w (x))), some (.int (a1)), some (.int (a2)), none] [.int ((-10 : Int32))] (rcH h (x) 9) g
    exact X_iret C (D (26, .ireturn, 1) (mg 13 rfl)) (by rw [← hPP]; exact ⟨⟨_, rfl, wyR_f (fun z9 => absurd z9 (by first | omega | (unfold okW; rw [nI_tn (by omega)]; omega)))⟩, fun q i z => by rw [rcH_ne _ _ _ (by omega)]⟩)
  · skip
    have q4 : (0 ≤ (a1).toInt ∧ (a1).toInt < ((33554432 : Nat) : Int)) := bz1.mp q4
    obtain ⟨n8, hn8, rfl⟩ := nI_i (x := a1) (n := 33554432) q4.1 (by omega)
    refine X_iload_n C 1 (D (9, .iload_n 1, 1) (mg 4 rfl)) rfl rfl ?_
    refine X_cS (As := [.int (nI (n8))]) (st := []) C (post := _) (cx_J6_bitCount_0f7a4 hw (K := n8) (by omega) h g) kX7_164 (by decide) (by decide) rfl rfl (Nat.le_of_ble_eq_true rfl) (D (10, .invokestatic 164, 3) (mg 5 rfl)) rfl (fun v11 H9 G10 hv11 => ?_)
    obtain ⟨rfl, rfl, rfl⟩ := hv11
    show X k w _ 13 [some (.ref (wA w (x))), some (.int (nI (n8))), some (.int (a2)), none] [.int (nI (bs (n8) 25))] h g
    have hbl := bs_le (n8) 25
    refine X_iconst (v := nI (5)) C (D (13, .iconst 5, 1) (mg 6 rfl)) (by decide) ?_
    refine X_icmp_gt (tgt := 22) C (D (14, .if_icmp .gt 8, 3) (mg 7 rfl)) (by decide) (fun q12 => ?_) (fun q12 => ?_)
    · skip
      have q12 : (bs (n8) 25) > (5) := by have z := (nI_ltI (a := (5)) (b := (bs (n8) 25)) (by omega) (by omega)).mp q12; omega
      refine X_aload_n C 0 (D (22, .aload_n 0, 1) (mg 11 rfl)) rfl rfl ?_
      refine X_cV (As := []) (st := []) C (post := _) (x) (by omega) hsx rfl (ct_X7_refuseBadTen hw hC0 h g) kX7_169 (by decide) (by decide) rfl rfl (Nat.le_of_ble_eq_true rfl) (D (23, .invokevirtual 169, 3) (mg 12 rfl)) rfl (fun v15 H13 G14 hv15 => ?_)
      obtain ⟨rfl, rfl, rfl⟩ := hv15
      show X k w _ 26 [some (.ref (wA w (x))), some (.int (nI (n8))), some (.int (a2)), none] [.int ((-10 : Int32))] (rcH h (x) 9) g
      exact X_iret C (D (26, .ireturn, 1) (mg 13 rfl)) (by rw [← hPP]; exact ⟨⟨_, rfl, wyR_f (fun z9 => absurd z9 (by first | omega | (unfold okW; rw [nI_tn (by omega)]; omega)))⟩, fun q i z => by rw [rcH_ne _ _ _ (by omega)]⟩)
    · skip
      have q12 : (bs (n8) 25) ≤ (5) := by have z : ¬ ((5) < (bs (n8) 25)) := fun u => q12 ((nI_ltI (a := (5)) (b := (bs (n8) 25)) (by omega) (by omega)).mpr u); omega
      refine X_iload_n C 2 (D (17, .iload_n 2, 1) (mg 8 rfl)) rfl rfl ?_
      refine X_iconst (v := (-1 : Int32)) C (D (18, .iconst (-1), 1) (mg 9 rfl)) (by decide) ?_
      refine X_icmp_ge (tgt := 27) C (D (19, .if_icmp .ge 8, 3) (mg 10 rfl)) (by decide) (fun q16 => ?_) (fun q16 => ?_)
      · skip
        have hk9_ : -1 ≤ a2.toInt := by have z9 := Int32.le_iff_toInt_le.mp q16; rw [m1_i] at z9; exact z9
        refine X_aload_n C 0 (D (27, .aload_n 0, 1) (mg 14 rfl)) rfl rfl ?_
        refine X_get (v := .ref (wA w (x + 30))) C (x) 4 (by omega) hsx rfl rfl (by decide) inX7 fX7_34 rfl (D (28, .getfield 34, 3) (mg 15 rfl)) rfl ?_
        refine X_iload_n C 1 (D (31, .iload_n 1, 1) (mg 16 rfl)) rfl rfl ?_
        refine X_cV (As := [.int (nI (n8))]) (st := []) C (post := _) (x + 30) (by omega) hY.2.1 rfl (cx_X6_prepare hw (y := x + 30) hY (K := n8) (by omega) (by omega) h g) kX7_172 (by decide) (by decide) rfl rfl (Nat.le_of_ble_eq_true rfl) (D (32, .invokevirtual 172, 3) (mg 17 rfl)) rfl (fun v19 H17 G18 hv19 => ?_)
        obtain ⟨rfl, f20, hpb_, hpt_, hpr_⟩ := hv19
        obtain ⟨s, hsE⟩ : ∃ s, s = bs n8 25 := ⟨_, rfl⟩
        have hs : s ≤ 5 := by omega
        obtain ⟨T, hTE⟩ : ∃ T, T = tdK n8 25 := ⟨_, rfl⟩
        have hTo : tOK T s := by rw [hTE, hsE]; exact tdK_ok n8
        have hD : dis T s := by rw [hTE, hsE]; exact tdK_d n8
        have hp32 := p2_32 hs
        have hf40_ := FW_0s hs hTo
        rw [← hsE] at hpb_ hpt_ hpr_
        rw [← hTE] at hpt_ hpr_
        show X k w _ 35 [some (.ref (wA w (x))), some (.int (nI (n8))), some (.int (a2)), none] [] H17 G18
        refine X_aload_n C 0 (D (35, .aload_n 0, 1) (mg 18 rfl)) rfl rfl ?_
        refine X_get (v := .ref (wA w (x + 30))) C (x) 4 (by omega) hsx rfl rfl (by decide) inX7 fX7_34 rfl (D (36, .getfield 34, 3) (mg 19 rfl)) rfl ?_
        refine X_aload_n C 0 (D (39, .aload_n 0, 1) (mg 20 rfl)) rfl rfl ?_
        refine X_get (v := .ref (wA w (x + 1))) C (x) 0 (by omega) hsx rfl rfl (by decide) inX7 fX7_10 rfl (D (40, .getfield 10, 3) (mg 21 rfl)) rfl ?_
        refine X_get (v := .ref (wA w (x + 2))) C (x + 1) 0 (by omega) hT.2.1 rfl rfl (by decide) inX4 fX7_61 rfl (D (43, .getfield 61, 3) (mg 22 rfl)) rfl ?_
        refine X_get (v := .int (H17 (x + 2) 3)) C (x + 2) 3 (by omega) hT.2.2.1.2.1 rfl rfl (by decide) inX1 fX7_118 rfl (D (46, .getfield 118, 3) (mg 23 rfl)) rfl ?_
        refine X_ti (y := nI (0)) (((f20 _ _ (by omega) (by omega) (by omega))).trans hk3) ?_
        refine X_cV (As := [.int (nI (0))]) (st := []) C (post := _) (x + 30) (by omega) hY.2.1 rfl (cx_X6_fewestFrom hw (y := x + 30) hY (s := s) hs (T := T) hTo hD (c := 0) (by omega) H17 G18 hpb_ hpt_ hpr_) kX7_175 (by decide) (by decide) rfl rfl (Nat.le_of_ble_eq_true rfl) (D (49, .invokevirtual 175, 3) (mg 24 rfl)) rfl (fun v23 H21 G22 hv23 => ?_)
        obtain ⟨rfl, rfl, rfl⟩ := hv23
        show X k w _ 52 [some (.ref (wA w (x))), some (.int (nI (n8))), some (.int (a2)), none] [.int (nI (FW T s (0) (woF T (0) s (p2 s - 1))))] H17 G18
        refine X_istore_n (ls' := [some (.ref (wA w (x))), some (.int (nI (n8))), some (.int (a2)), some (.int (nI (FW T s (0) (woF T (0) s (p2 s - 1)))))]) C 3 (D (52, .istore_n 3, 1) (mg 25 rfl)) rfl (Nat.le_of_ble_eq_true rfl) rfl ?_
        refine X_iload_n C 2 (D (53, .iload_n 2, 1) (mg 26 rfl)) rfl rfl ?_
        refine X_iconst (v := (-1 : Int32)) C (D (54, .iconst (-1), 1) (mg 27 rfl)) (by decide) ?_
        refine X_icmp_ne (tgt := 60) C (D (55, .if_icmp .ne 5, 3) (mg 28 rfl)) (by decide) (fun q24 => ?_) (fun q24 => ?_)
        · skip
          refine X_iload_n C 2 (D (60, .iload_n 2, 1) (mg 31 rfl)) rfl rfl ?_
          refine X_iload_n C 3 (D (61, .iload_n 3, 1) (mg 32 rfl)) rfl rfl ?_
          refine X_icmp_ge (tgt := 86) C (D (62, .if_icmp .ge 24, 3) (mg 33 rfl)) (by decide) (fun q25 => ?_) (fun q25 => ?_)
          · skip
            refine X_bipush (v := (-5 : Int32)) C (D (86, .bipush (-5), 2) (mg 43 rfl)) (by decide) ?_
            exact X_iret C (D (88, .ireturn, 1) (mg 44 rfl)) (by rw [← hPP]; exact ⟨⟨_, rfl, by subst hTE; subst hsE; exact wyR_t (by omega) (by omega) hk9_ (wyB_n (by omega) (by assumption) (by assumption))⟩, fun q i z => by rw [f20 _ _ (by omega) (by omega) (by omega)]⟩)
          · skip
            have hlt9_ : a2 < nI (FW T s 0 (woF T 0 s (p2 s - 1))) := by (rw [Int32.lt_iff_toInt_lt]; have u_ : ¬ ((nI (FW T s 0 (woF T 0 s (p2 s - 1)))).toInt ≤ a2.toInt) := fun u => q25 (Int32.le_iff_toInt_le.mpr u); omega)
            have hge9_ : (-1 : Int32) ≤ a2 := by (rw [Int32.le_iff_toInt_le, m1_i]; exact hk9_)
            obtain ⟨k2, hk2, rfl⟩ := wy_k hge9_ (by assumption) hlt9_ (by omega)
            refine X_aload_n C 0 (D (65, .aload_n 0, 1) (mg 34 rfl)) rfl rfl ?_
            refine X_get (v := .ref (wA w (x + 30))) C (x) 4 (by omega) hsx rfl rfl (by decide) inX7 fX7_34 rfl (D (66, .getfield 34, 3) (mg 35 rfl)) rfl ?_
            refine X_aload_n C 0 (D (69, .aload_n 0, 1) (mg 36 rfl)) rfl rfl ?_
            refine X_get (v := .ref (wA w (x + 1))) C (x) 0 (by omega) hsx rfl rfl (by decide) inX7 fX7_10 rfl (D (70, .getfield 10, 3) (mg 37 rfl)) rfl ?_
            refine X_get (v := .ref (wA w (x + 2))) C (x + 1) 0 (by omega) hT.2.1 rfl rfl (by decide) inX4 fX7_61 rfl (D (73, .getfield 61, 3) (mg 38 rfl)) rfl ?_
            refine X_get (v := .int (H17 (x + 2) 3)) C (x + 2) 3 (by omega) hT.2.2.1.2.1 rfl rfl (by decide) inX1 fX7_118 rfl (D (76, .getfield 118, 3) (mg 39 rfl)) rfl ?_
            refine X_ti (y := nI (0)) (((f20 _ _ (by omega) (by omega) (by omega))).trans hk3) ?_
            refine X_iload_n C 2 (D (79, .iload_n 2, 1) (mg 40 rfl)) rfl rfl ?_
            refine X_cV (As := [.int (nI (0)), .int (nI (k2))]) (st := []) C (post := _) (x + 30) (by omega) hY.2.1 rfl (cx_X6_stepFrom hw (y := x + 30) hY (s := s) hs (T := T) hTo hD (c0 := 0) (kk := k2) (by omega) hk2 H17 G18 hpb_ hpt_ hpr_) kX7_178 (by decide) (by decide) rfl rfl (Nat.le_of_ble_eq_true rfl) (D (80, .invokevirtual 178, 3) (mg 41 rfl)) rfl (fun v28 H26 G27 hv28 => ?_)
            obtain ⟨⟨_, rfl, i8, rfl, hks_⟩, rfl, rfl⟩ := hv28
            show X k w _ 83 [some (.ref (wA w (x))), some (.int (nI (n8))), some (.int (nI (k2))), some (.int (nI (FW T s (0) (woF T (0) s (p2 s - 1)))))] [.int (nI (i8))] H17 G18
            refine X_goto (tgt := 88) C (D (83, .goto 5, 3) (mg 42 rfl)) (by decide) ?_
            exact X_iret C (D (88, .ireturn, 1) (mg 44 rfl)) (by rw [← hPP]; exact ⟨⟨_, rfl, by subst hTE; subst hsE; exact wyR_t (by omega) (by omega) hk9_ (wyB_k (by omega) hk2 hks_)⟩, fun q i z => by rw [f20 _ _ (by omega) (by omega) (by omega)]⟩)
        · skip
          refine X_iload_n C 3 (D (58, .iload_n 3, 1) (mg 29 rfl)) rfl rfl ?_
          exact X_iret C (D (59, .ireturn, 1) (mg 30 rfl)) (by rw [← hPP]; exact ⟨⟨_, rfl, by rw [(by assumption : a2 = (-1 : Int32))]; subst hTE; subst hsE; exact wyR_t (by omega) (by omega) (by decide) wyB_m⟩, fun q i z => by rw [f20 _ _ (by omega) (by omega) (by omega)]⟩)
      · skip
        have hk9_ : ¬ (-1 ≤ a2.toInt) := fun z9 => q16 (Int32.le_iff_toInt_le.mpr (by rw [m1_i]; exact z9))
        refine X_aload_n C 0 (D (22, .aload_n 0, 1) (mg 11 rfl)) rfl rfl ?_
        refine X_cV (As := []) (st := []) C (post := _) (x) (by omega) hsx rfl (ct_X7_refuseBadTen hw hC0 h g) kX7_169 (by decide) (by decide) rfl rfl (Nat.le_of_ble_eq_true rfl) (D (23, .invokevirtual 169, 3) (mg 12 rfl)) rfl (fun v31 H29 G30 hv31 => ?_)
        obtain ⟨rfl, rfl, rfl⟩ := hv31
        show X k w _ 26 [some (.ref (wA w (x))), some (.int (nI (n8))), some (.int (a2)), none] [.int ((-10 : Int32))] (rcH h (x) 9) g
        exact X_iret C (D (26, .ireturn, 1) (mg 13 rfl)) (by rw [← hPP]; exact ⟨⟨_, rfl, wyR_f (fun z9 => absurd z9 (by first | omega | (unfold okW; rw [nI_tn (by omega)]; omega)))⟩, fun q i z => by rw [rcH_ne _ _ _ (by omega)]⟩)
