/-! PHASE 3, THE CLASS: looks at a nave, exact -/
def htC (v x : Int32) : Int32 := if nI 1 ≤ cD v then hiC (cK v) (cD v) (mnI (cA v + x) (nI 99)) else nI 0
def drC (k s v : Int32) : Int32 := if ¬ v = (-1 : Int32) then deC k (cD v) s else (-1 : Int32)
theorem htC_0 (x : Int32) : htC (-1 : Int32) x = nI 0 := by
  unfold htC; rw [if_neg (show ¬ nI 1 ≤ cD (-1 : Int32) from by decide)]
theorem cn_0 {p : Nat → Prop} [DecidablePred p] : ∀ n, (∀ c, c < n → ¬ p c) → cn p n = 0
  | 0, _ => rfl
  | n + 1, H => by rw [← cn_n (H n (by omega))]; exact cn_0 n (fun c hc => H c (by omega))
theorem cn_1 {p : Nat → Prop} [DecidablePred p] {j : Nat} : ∀ n, j < n → (∀ c, c < n → (p c ↔ c = j)) → cn p n = 1
  | 0, h, _ => by omega
  | n + 1, h, H => by
    by_cases q : j = n
    · subst q
      rw [← cn_t ((H j (by omega)).mpr rfl), cn_0 j (fun c hc z => by have := (H c (by omega)).mp z; omega)]
    · rw [← cn_n (fun z => q ((H n (by omega)).mp z).symm)]
      exact cn_1 n (by omega) (fun c hc => H c (by omega))
set_option maxHeartbeats 4000000 in
set_option maxRecDepth 100000 in
theorem cx_X1_heightAfter {l : Launch} {w : Kw} (hw : wOk w) {n : Nat} (hN : shN w n) {j : Nat} (hj : j < 25) (x : Int32) (h : xI) (g : xJ)  : Ct l w yX1_heightAfter cX1_heightAfter 3 (some .int) 2 46 [.ref (wA w (n)), .int (nI (j)), .int (x)] h g (px (some (.int (htC (h (n + 2) j) x))) h g) := by
  refine Ct_of (ls := [some (.ref (wA w (n))), some (.int (nI (j))), some (.int (x))]) (by decide) hw (Nat.le_of_ble_eq_true rfl) rfl (fun k hkl C => ?_)
  have C : Cx k w cX1_heightAfter RX1 3 (some .int) 2 46 := C
  have D := dtX1_heightAfter
  subst hkl
  have hN0 := hN
  obtain ⟨hn, hsn, hs1, hs2⟩ := hN
  have hN := hN0
  refine X_aload_n C 0 (D (0, .aload_n 0, 1) (mg 0 rfl)) rfl rfl ?_
  refine X_iload_n C 1 (D (1, .iload_n 1, 1) (mg 1 rfl)) rfl rfl ?_
  refine X_cV (As := [.int (nI (j))]) (st := []) C (post := _) (n) (by omega) hsn rfl (ct_X1_depthIn hw (n := n) hN (j := j) (by omega) h g) kX1_44 (by decide) (by decide) rfl rfl (Nat.le_of_ble_eq_true rfl) (D (2, .invokevirtual 44, 3) (mg 2 rfl)) rfl (fun v3 H1 G2 hv3 => ?_)
  obtain ⟨rfl, rfl, rfl⟩ := hv3
  show X k w _ 5 [some (.ref (wA w (n))), some (.int (nI (j))), some (.int (x))] [.int (cD (h (n + 2) (j)))] h g
  refine X_iconst (v := nI (1)) C (D (5, .iconst 1, 1) (mg 3 rfl)) (by decide) ?_
  refine X_icmp_ge (tgt := 11) C (D (6, .if_icmp .ge 5, 3) (mg 4 rfl)) (by decide) (fun q4 => ?_) (fun q4 => ?_)
  · skip
    refine X_aload_n C 0 (D (11, .aload_n 0, 1) (mg 7 rfl)) rfl rfl ?_
    refine X_iload_n C 1 (D (12, .iload_n 1, 1) (mg 8 rfl)) rfl rfl ?_
    refine X_cV (As := [.int (nI (j))]) (st := []) C (post := _) (n) (by omega) hsn rfl (ct_X1_kindIn hw (n := n) hN (j := j) (by omega) h g) kX1_54 (by decide) (by decide) rfl rfl (Nat.le_of_ble_eq_true rfl) (D (13, .invokevirtual 54, 3) (mg 9 rfl)) rfl (fun v7 H5 G6 hv7 => ?_)
    obtain ⟨rfl, rfl, rfl⟩ := hv7
    show X k w _ 16 [some (.ref (wA w (n))), some (.int (nI (j))), some (.int (x))] [.int (cK (h (n + 2) (j)))] h g
    refine X_aload_n C 0 (D (16, .aload_n 0, 1) (mg 10 rfl)) rfl rfl ?_
    refine X_iload_n C 1 (D (17, .iload_n 1, 1) (mg 11 rfl)) rfl rfl ?_
    refine X_cV (As := [.int (nI (j))]) (st := [.int (cK (h (n + 2) (j)))]) C (post := _) (n) (by omega) hsn rfl (ct_X1_depthIn hw (n := n) hN (j := j) (by omega) h g) kX1_44 (by decide) (by decide) rfl rfl (Nat.le_of_ble_eq_true rfl) (D (18, .invokevirtual 44, 3) (mg 12 rfl)) rfl (fun v10 H8 G9 hv10 => ?_)
    obtain ⟨rfl, rfl, rfl⟩ := hv10
    show X k w _ 21 [some (.ref (wA w (n))), some (.int (nI (j))), some (.int (x))] [.int (cD (h (n + 2) (j))), .int (cK (h (n + 2) (j)))] h g
    refine X_aload_n C 0 (D (21, .aload_n 0, 1) (mg 13 rfl)) rfl rfl ?_
    refine X_iload_n C 1 (D (22, .iload_n 1, 1) (mg 14 rfl)) rfl rfl ?_
    refine X_cV (As := [.int (nI (j))]) (st := [.int (cD (h (n + 2) (j))), .int (cK (h (n + 2) (j)))]) C (post := _) (n) (by omega) hsn rfl (ct_X1_ageIn hw (n := n) hN (j := j) (by omega) h g) kX1_57 (by decide) (by decide) rfl rfl (Nat.le_of_ble_eq_true rfl) (D (23, .invokevirtual 57, 3) (mg 15 rfl)) rfl (fun v13 H11 G12 hv13 => ?_)
    obtain ⟨rfl, rfl, rfl⟩ := hv13
    show X k w _ 26 [some (.ref (wA w (n))), some (.int (nI (j))), some (.int (x))] [.int (cA (h (n + 2) (j))), .int (cD (h (n + 2) (j))), .int (cK (h (n + 2) (j)))] h g
    refine X_iload_n C 2 (D (26, .iload_n 2, 1) (mg 16 rfl)) rfl rfl ?_
    refine X_iadd C (D (27, .iadd, 1) (mg 17 rfl)) ?_
    refine X_bipush (v := nI (99)) C (D (28, .bipush 99, 2) (mg 18 rfl)) (by decide) ?_
    refine X_mmin (st := [.int (cD (h (n + 2) (j))), .int (cK (h (n + 2) (j)))]) C kX1_60 (by decide) (by decide) (Nat.le_of_ble_eq_true rfl) rfl (D (30, .invokestatic 60, 3) (mg 19 rfl)) ?_
    refine X_cS (As := [.int (cK (h (n + 2) (j))), .int (cD (h (n + 2) (j))), .int (mnI ((cA (h (n + 2) (j))) + x) (nI (99)))]) (st := []) C (post := _) (ct_X3_stands hw (cK (h (n + 2) (j))) (cD (h (n + 2) (j))) (mnI ((cA (h (n + 2) (j))) + x) (nI (99))) h g) kX1_66 (by decide) (by decide) rfl rfl (Nat.le_of_ble_eq_true rfl) (D (33, .invokestatic 66, 3) (mg 20 rfl)) rfl (fun v16 H14 G15 hv16 => ?_)
    obtain ⟨rfl, rfl, rfl⟩ := hv16
    show X k w _ 36 [some (.ref (wA w (n))), some (.int (nI (j))), some (.int (x))] [.int (hiC (cK (h (n + 2) (j))) (cD (h (n + 2) (j))) (mnI ((cA (h (n + 2) (j))) + x) (nI (99))))] h g
    exact X_iret C (D (36, .ireturn, 1) (mg 21 rfl)) ⟨congrArg (fun z => some (Value.int z)) (if_pos (by assumption)), rfl, rfl⟩
  · skip
    refine X_iconst (v := nI (0)) C (D (9, .iconst 0, 1) (mg 5 rfl)) (by decide) ?_
    exact X_iret C (D (10, .ireturn, 1) (mg 6 rfl)) ⟨congrArg (fun z => some (Value.int z)) (if_neg (by assumption)), rfl, rfl⟩
set_option maxHeartbeats 4000000 in
set_option maxRecDepth 100000 in
theorem cx_X1_dragIn {l : Launch} {w : Kw} (hw : wOk w) {n : Nat} (hN : shN w n) {j : Nat} (hj : j < 25) (h : xI) (g : xJ)  : Ct l w yX1_dragIn cX1_dragIn 2 (some .int) 2 42 [.ref (wA w (n)), .int (nI (j))] h g (px (some (.int (drC (h n 2) (h (n + 1) j) (h (n + 2) j)))) h g) := by
  refine Ct_of (ls := [some (.ref (wA w (n))), some (.int (nI (j)))]) (by decide) hw (Nat.le_of_ble_eq_true rfl) rfl (fun k hkl C => ?_)
  have C : Cx k w cX1_dragIn RX1 2 (some .int) 2 42 := C
  have D := dtX1_dragIn
  subst hkl
  have hN0 := hN
  obtain ⟨hn, hsn, hs1, hs2⟩ := hN
  have hN := hN0
  refine X_aload_n C 0 (D (0, .aload_n 0, 1) (mg 0 rfl)) rfl rfl ?_
  refine X_iload_n C 1 (D (1, .iload_n 1, 1) (mg 1 rfl)) rfl rfl ?_
  refine X_cV (As := [.int (nI (j))]) (st := []) C (post := _) (n) (by omega) hsn rfl (ct_X1_liesIn hw (n := n) hN (j := j) (by omega) h g) kX1_40 (by decide) (by decide) rfl rfl (Nat.le_of_ble_eq_true rfl) (D (2, .invokevirtual 40, 3) (mg 2 rfl)) rfl (fun v3 H1 G2 hv3 => ?_)
  obtain ⟨rfl, rfl, rfl⟩ := hv3
  show X k w _ 5 [some (.ref (wA w (n))), some (.int (nI (j)))] [.int (if ¬ h (n + 2) (j) = (-1 : Int32) then 1 else 0)] h g
  refine X_if_eq (tgt := 29) C (D (5, .ifCond .eq 24, 3) (mg 3 rfl)) (by decide) (fun q4 => ?_) (fun q4 => ?_)
  · skip
    have q4 : ¬ (¬ h (n + 2) (j) = (-1 : Int32)) := bz0.mp q4
    refine X_iconst (v := (-1 : Int32)) C (D (29, .iconst (-1), 1) (mg 15 rfl)) (by decide) ?_
    exact X_iret C (D (30, .ireturn, 1) (mg 16 rfl)) ⟨congrArg (fun z => some (Value.int z)) (if_neg (by assumption)), rfl, rfl⟩
  · skip
    have q4 : (¬ h (n + 2) (j) = (-1 : Int32)) := bz1.mp q4
    refine X_aload_n C 0 (D (8, .aload_n 0, 1) (mg 4 rfl)) rfl rfl ?_
    refine X_get (v := .int (h (n) 2)) C (n) 2 (by omega) hsn rfl rfl (by decide) inX1 fX1_24 rfl (D (9, .getfield 24, 3) (mg 5 rfl)) rfl ?_
    refine X_aload_n C 0 (D (12, .aload_n 0, 1) (mg 6 rfl)) rfl rfl ?_
    refine X_iload_n C 1 (D (13, .iload_n 1, 1) (mg 7 rfl)) rfl rfl ?_
    refine X_cV (As := [.int (nI (j))]) (st := [.int (h (n) 2)]) C (post := _) (n) (by omega) hsn rfl (ct_X1_depthIn hw (n := n) hN (j := j) (by omega) h g) kX1_44 (by decide) (by decide) rfl rfl (Nat.le_of_ble_eq_true rfl) (D (14, .invokevirtual 44, 3) (mg 8 rfl)) rfl (fun v7 H5 G6 hv7 => ?_)
    obtain ⟨rfl, rfl, rfl⟩ := hv7
    show X k w _ 17 [some (.ref (wA w (n))), some (.int (nI (j)))] [.int (cD (h (n + 2) (j))), .int (h (n) 2)] h g
    refine X_aload_n C 0 (D (17, .aload_n 0, 1) (mg 9 rfl)) rfl rfl ?_
    refine X_get (v := .ref (wA w (n + 1))) C (n) 0 (by omega) hsn rfl rfl (by decide) inX1 fX1_9 rfl (D (18, .getfield 9, 3) (mg 10 rfl)) rfl ?_
    refine X_iload_n C 1 (D (21, .iload_n 1, 1) (mg 11 rfl)) rfl rfl ?_
    refine X_iald (v := h (n + 1) (j)) C (n + 1) (by omega) hs1 (vp_in_nI (by omega) (by omega)) (D (22, .iaload, 1) (mg 12 rfl)) (by rw [nI_clamp (by omega)]) ?_
    refine X_cS (As := [.int (h (n) 2), .int (cD (h (n + 2) (j))), .int (h (n + 1) (j))]) (st := []) C (post := _) (ct_X0_dragsBy hw (h (n) 2) (cD (h (n + 2) (j))) (h (n + 1) (j)) h g) kX1_48 (by decide) (by decide) rfl rfl (Nat.le_of_ble_eq_true rfl) (D (23, .invokestatic 48, 3) (mg 13 rfl)) rfl (fun v10 H8 G9 hv10 => ?_)
    obtain ⟨rfl, rfl, rfl⟩ := hv10
    show X k w _ 26 [some (.ref (wA w (n))), some (.int (nI (j)))] [.int (deC (h (n) 2) (cD (h (n + 2) (j))) (h (n + 1) (j)))] h g
    refine X_goto (tgt := 30) C (D (26, .goto 4, 3) (mg 14 rfl)) (by decide) ?_
    exact X_iret C (D (30, .ireturn, 1) (mg 16 rfl)) ⟨congrArg (fun z => some (Value.int z)) (if_pos (by assumption)), rfl, rfl⟩
set_option maxHeartbeats 4000000 in
set_option maxRecDepth 100000 in
theorem cx_X1_atLeast {l : Launch} {w : Kw} (hw : wOk w) {n : Nat} (hN : shN w n) (y0 x : Int32) (h : xI) (g : xJ)  : Ct l w yX1_atLeast cX1_atLeast 5 (some .int) 3 68 [.ref (wA w (n)), .int (y0), .int (x)] h g (px (some (.int (nI (cn (fun c => ¬ htC (h (n + 2) c) x < y0) 25)))) h g) := by
  refine Ct_of (ls := [some (.ref (wA w (n))), some (.int (y0)), some (.int (x)), none, none]) (by decide) hw (Nat.le_of_ble_eq_true rfl) rfl (fun k hkl C => ?_)
  have C : Cx k w cX1_atLeast RX1 5 (some .int) 3 68 := C
  have D := dtX1_atLeast
  subst hkl
  have hN0 := hN
  obtain ⟨hn, hsn, hs1, hs2⟩ := hN
  have hN := hN0
  refine X_iconst (v := nI (0)) C (D (0, .iconst 0, 1) (mg 0 rfl)) (by decide) ?_
  refine X_istore_n (ls' := [some (.ref (wA w (n))), some (.int (y0)), some (.int (x)), some (.int (nI (0))), none]) C 3 (D (1, .istore_n 3, 1) (mg 1 rfl)) rfl (Nat.le_of_ble_eq_true rfl) rfl ?_
  refine X_iconst (v := nI (0)) C (D (2, .iconst 0, 1) (mg 2 rfl)) (by decide) ?_
  refine X_istore (ls' := [some (.ref (wA w (n))), some (.int (y0)), some (.int (x)), some (.int (nI (0))), some (.int (nI (0)))]) C (D (3, .istore 4, 2) (mg 3 rfl)) (Nat.le_of_ble_eq_true rfl) rfl ?_
  have lp5 : ∀ (nn5 : Nat) (j : Nat), (j ≤ 25) → 26 - j ≤ nn5 → X k w (Zq k w (px (some (.int (nI (cn (fun c => ¬ htC (h (n + 2) c) x < y0) 25)))) h g)) 5 [some (.ref (wA w (n))), some (.int (y0)), some (.int (x)), some (.int (nI (cn (fun c => ¬ htC (h (n + 2) c) x < y0) (j)))), some (.int (nI (j)))] [] h g := by
    intro nn5
    induction nn5 with
    | zero => intro j hc5_0 hz; exact absurd hz (by omega)
    | succ nn5 ih5 =>
      intro j hc5_0 hz5
      refine X_iload C (D (5, .iload 4, 2) (mg 4 rfl)) rfl ?_
      refine X_bipush (v := nI (25)) C (D (7, .bipush 25, 2) (mg 5 rfl)) (by decide) ?_
      refine X_icmp_ge (tgt := 32) C (D (9, .if_icmp .ge 23, 3) (mg 6 rfl)) (by decide) (fun q1 => ?_) (fun q1 => ?_)
      · skip
        have q1 : (j) ≥ (25) := by have z := (nI_leI (a := (25)) (b := (j)) (by omega) (by omega)).mp q1; omega
        refine X_iload_n C 3 (D (32, .iload_n 3, 1) (mg 16 rfl)) rfl rfl ?_
        exact X_iret C (D (33, .ireturn, 1) (mg 17 rfl)) ⟨by rw [show j = 25 by omega], rfl, rfl⟩
      · skip
        have q1 : (j) < (25) := by have z : ¬ ((25) ≤ (j)) := fun u => q1 ((nI_leI (a := (25)) (b := (j)) (by omega) (by omega)).mpr u); omega
        refine X_aload_n C 0 (D (12, .aload_n 0, 1) (mg 7 rfl)) rfl rfl ?_
        refine X_iload C (D (13, .iload 4, 2) (mg 8 rfl)) rfl ?_
        refine X_iload_n C 2 (D (15, .iload_n 2, 1) (mg 9 rfl)) rfl rfl ?_
        refine X_cV (As := [.int (nI (j)), .int (x)]) (st := []) C (post := _) (n) (by omega) hsn rfl (cx_X1_heightAfter hw (n := n) hN (j := j) (by omega) (x) h g) kX1_74 (by decide) (by decide) rfl rfl (Nat.le_of_ble_eq_true rfl) (D (16, .invokevirtual 74, 3) (mg 10 rfl)) rfl (fun v4 H2 G3 hv4 => ?_)
        obtain ⟨rfl, rfl, rfl⟩ := hv4
        show X k w _ 19 [some (.ref (wA w (n))), some (.int (y0)), some (.int (x)), some (.int (nI (cn (fun c => ¬ htC (h (n + 2) c) x < y0) (j)))), some (.int (nI (j)))] [.int (htC (h (n + 2) (j)) (x))] h g
        refine X_iload_n C 1 (D (19, .iload_n 1, 1) (mg 11 rfl)) rfl rfl ?_
        refine X_icmp_lt (tgt := 26) C (D (20, .if_icmp .lt 6, 3) (mg 12 rfl)) (by decide) (fun q5 => ?_) (fun q5 => ?_)
        · skip
          refine X_iinc (v := nI (j + 1)) (ls' := [some (.ref (wA w (n))), some (.int (y0)), some (.int (x)), some (.int (nI (cn (fun c => ¬ htC (h (n + 2) c) x < y0) (j)))), some (.int (nI (j + 1)))]) C (D (26, .iinc 4 1, 3) (mg 14 rfl)) rfl (nI_add (j) 1) rfl ?_
          refine X_goto (tgt := 5) C (D (29, .goto (-24), 3) (mg 15 rfl)) (by decide) ?_
          refine X_eq (ls' := [some (.ref (wA w (n))), some (.int (y0)), some (.int (x)), some (.int (nI (cn (fun c => ¬ htC (h (n + 2) c) x < y0) (j + 1)))), some (.int (nI (j + 1)))]) (st' := []) (h' := h) (g' := g) (by rw [cn_n (p := fun c => ¬ htC (h (n + 2) c) x < y0) (fun u_ => u_ (by assumption))]) rfl rfl rfl ?_
          exact ih5 (j + 1) (by omega) (by omega)
        · skip
          refine X_iinc (v := nI (cn (fun c => ¬ htC (h (n + 2) c) x < y0) (j) + 1)) (ls' := [some (.ref (wA w (n))), some (.int (y0)), some (.int (x)), some (.int (nI (cn (fun c => ¬ htC (h (n + 2) c) x < y0) (j) + 1))), some (.int (nI (j)))]) C (D (23, .iinc 3 1, 3) (mg 13 rfl)) rfl (nI_add (cn (fun c => ¬ htC (h (n + 2) c) x < y0) (j)) 1) rfl ?_
          refine X_iinc (v := nI (j + 1)) (ls' := [some (.ref (wA w (n))), some (.int (y0)), some (.int (x)), some (.int (nI (cn (fun c => ¬ htC (h (n + 2) c) x < y0) (j) + 1))), some (.int (nI (j + 1)))]) C (D (26, .iinc 4 1, 3) (mg 14 rfl)) rfl (nI_add (j) 1) rfl ?_
          refine X_goto (tgt := 5) C (D (29, .goto (-24), 3) (mg 15 rfl)) (by decide) ?_
          refine X_eq (ls' := [some (.ref (wA w (n))), some (.int (y0)), some (.int (x)), some (.int (nI (cn (fun c => ¬ htC (h (n + 2) c) x < y0) (j + 1)))), some (.int (nI (j + 1)))]) (st' := []) (h' := h) (g' := g) (by rw [cn_t (p := fun c => ¬ htC (h (n + 2) c) x < y0) (by assumption)]) rfl rfl rfl ?_
          exact ih5 (j + 1) (by omega) (by omega)
  refine X_eq (ls' := [some (.ref (wA w (n))), some (.int (y0)), some (.int (x)), some (.int (nI (cn (fun c => ¬ htC (h (n + 2) c) x < y0) (0)))), some (.int (nI (0)))]) (st' := []) (h' := h) (g' := g) rfl rfl rfl rfl ?_
  exact lp5 _ (0) (by omega) (Nat.le_refl _)
set_option maxHeartbeats 4000000 in
set_option maxRecDepth 100000 in
theorem cx_X1_greenAfter {l : Launch} {w : Kw} (hw : wOk w) {n : Nat} (hN : shN w n) (x : Int32) (h : xI) (g : xJ)  : Ct l w yX1_greenAfter cX1_greenAfter 2 (some .int) 4 92 [.ref (wA w (n)), .int (x)] h g (px (some (.int (nI (cn (fun c => ¬ htC (h (n + 2) c) x < nI 1) 25)))) h g) := by
  refine Ct_of (ls := [some (.ref (wA w (n))), some (.int (x))]) (by decide) hw (Nat.le_of_ble_eq_true rfl) rfl (fun k hkl C => ?_)
  have C : Cx k w cX1_greenAfter RX1 2 (some .int) 4 92 := C
  have D := dtX1_greenAfter
  subst hkl
  have hN0 := hN
  obtain ⟨hn, hsn, hs1, hs2⟩ := hN
  have hN := hN0
  refine X_aload_n C 0 (D (0, .aload_n 0, 1) (mg 0 rfl)) rfl rfl ?_
  refine X_iconst (v := nI (1)) C (D (1, .iconst 1, 1) (mg 1 rfl)) (by decide) ?_
  refine X_iload_n C 1 (D (2, .iload_n 1, 1) (mg 2 rfl)) rfl rfl ?_
  refine X_cV (As := [.int (nI (1)), .int (x)]) (st := []) C (post := _) (n) (by omega) hsn rfl (cx_X1_atLeast hw (n := n) hN (nI (1)) (x) h g) kX1_71 (by decide) (by decide) rfl rfl (Nat.le_of_ble_eq_true rfl) (D (3, .invokevirtual 71, 3) (mg 3 rfl)) rfl (fun v3 H1 G2 hv3 => ?_)
  obtain ⟨rfl, rfl, rfl⟩ := hv3
  show X k w _ 6 [some (.ref (wA w (n))), some (.int (x))] [.int (nI (cn (fun c => ¬ htC (h (n + 2) c) (x) < (nI (1))) 25))] h g
  exact X_iret C (D (6, .ireturn, 1) (mg 4 rfl)) ⟨rfl, rfl, rfl⟩
set_option maxHeartbeats 4000000 in
set_option maxRecDepth 100000 in
theorem cx_X1_filled {l : Launch} {w : Kw} (hw : wOk w) {n : Nat} (hN : shN w n) (h : xI) (g : xJ)  : Ct l w yX1_filled cX1_filled 3 (some .int) 1 21 [.ref (wA w (n))] h g (px (some (.int (nI (cn (fun c => ¬ h (n + 2) c = (-1 : Int32)) 25)))) h g) := by
  refine Ct_of (ls := [some (.ref (wA w (n))), none, none]) (by decide) hw (Nat.le_of_ble_eq_true rfl) rfl (fun k hkl C => ?_)
  have C : Cx k w cX1_filled RX1 3 (some .int) 1 21 := C
  have D := dtX1_filled
  subst hkl
  have hN0 := hN
  obtain ⟨hn, hsn, hs1, hs2⟩ := hN
  have hN := hN0
  refine X_iconst (v := nI (0)) C (D (0, .iconst 0, 1) (mg 0 rfl)) (by decide) ?_
  refine X_istore_n (ls' := [some (.ref (wA w (n))), some (.int (nI (0))), none]) C 1 (D (1, .istore_n 1, 1) (mg 1 rfl)) rfl (Nat.le_of_ble_eq_true rfl) rfl ?_
  refine X_iconst (v := nI (0)) C (D (2, .iconst 0, 1) (mg 2 rfl)) (by decide) ?_
  refine X_istore_n (ls' := [some (.ref (wA w (n))), some (.int (nI (0))), some (.int (nI (0)))]) C 2 (D (3, .istore_n 2, 1) (mg 3 rfl)) rfl (Nat.le_of_ble_eq_true rfl) rfl ?_
  have lp4 : ∀ (nn4 : Nat) (j : Nat), (j ≤ 25) → 26 - j ≤ nn4 → X k w (Zq k w (px (some (.int (nI (cn (fun c => ¬ h (n + 2) c = (-1 : Int32)) 25)))) h g)) 4 [some (.ref (wA w (n))), some (.int (nI (cn (fun c => ¬ h (n + 2) c = (-1 : Int32)) (j)))), some (.int (nI (j)))] [] h g := by
    intro nn4
    induction nn4 with
    | zero => intro j hc4_0 hz; exact absurd hz (by omega)
    | succ nn4 ih4 =>
      intro j hc4_0 hz4
      refine X_iload_n C 2 (D (4, .iload_n 2, 1) (mg 4 rfl)) rfl rfl ?_
      refine X_bipush (v := nI (25)) C (D (5, .bipush 25, 2) (mg 5 rfl)) (by decide) ?_
      refine X_icmp_ge (tgt := 27) C (D (7, .if_icmp .ge 20, 3) (mg 6 rfl)) (by decide) (fun q1 => ?_) (fun q1 => ?_)
      · skip
        have q1 : (j) ≥ (25) := by have z := (nI_leI (a := (25)) (b := (j)) (by omega) (by omega)).mp q1; omega
        refine X_iload_n C 1 (D (27, .iload_n 1, 1) (mg 14 rfl)) rfl rfl ?_
        exact X_iret C (D (28, .ireturn, 1) (mg 15 rfl)) ⟨by rw [show j = 25 by omega], rfl, rfl⟩
      · skip
        have q1 : (j) < (25) := by have z : ¬ ((25) ≤ (j)) := fun u => q1 ((nI_leI (a := (25)) (b := (j)) (by omega) (by omega)).mpr u); omega
        refine X_aload_n C 0 (D (10, .aload_n 0, 1) (mg 7 rfl)) rfl rfl ?_
        refine X_iload_n C 2 (D (11, .iload_n 2, 1) (mg 8 rfl)) rfl rfl ?_
        refine X_cV (As := [.int (nI (j))]) (st := []) C (post := _) (n) (by omega) hsn rfl (ct_X1_liesIn hw (n := n) hN (j := j) (by omega) h g) kX1_40 (by decide) (by decide) rfl rfl (Nat.le_of_ble_eq_true rfl) (D (12, .invokevirtual 40, 3) (mg 9 rfl)) rfl (fun v4 H2 G3 hv4 => ?_)
        obtain ⟨rfl, rfl, rfl⟩ := hv4
        show X k w _ 15 [some (.ref (wA w (n))), some (.int (nI (cn (fun c => ¬ h (n + 2) c = (-1 : Int32)) (j)))), some (.int (nI (j)))] [.int (if ¬ h (n + 2) (j) = (-1 : Int32) then 1 else 0)] h g
        refine X_if_eq (tgt := 21) C (D (15, .ifCond .eq 6, 3) (mg 10 rfl)) (by decide) (fun q5 => ?_) (fun q5 => ?_)
        · skip
          have q5 : ¬ (¬ h (n + 2) (j) = (-1 : Int32)) := bz0.mp q5
          refine X_iinc (v := nI (j + 1)) (ls' := [some (.ref (wA w (n))), some (.int (nI (cn (fun c => ¬ h (n + 2) c = (-1 : Int32)) (j)))), some (.int (nI (j + 1)))]) C (D (21, .iinc 2 1, 3) (mg 12 rfl)) rfl (nI_add (j) 1) rfl ?_
          refine X_goto (tgt := 4) C (D (24, .goto (-20), 3) (mg 13 rfl)) (by decide) ?_
          refine X_eq (ls' := [some (.ref (wA w (n))), some (.int (nI (cn (fun c => ¬ h (n + 2) c = (-1 : Int32)) (j + 1)))), some (.int (nI (j + 1)))]) (st' := []) (h' := h) (g' := g) (by rw [cn_n (p := fun c => ¬ h (n + 2) c = (-1 : Int32)) (by assumption)]) rfl rfl rfl ?_
          exact ih4 (j + 1) (by omega) (by omega)
        · skip
          have q5 : (¬ h (n + 2) (j) = (-1 : Int32)) := bz1.mp q5
          refine X_iinc (v := nI (cn (fun c => ¬ h (n + 2) c = (-1 : Int32)) (j) + 1)) (ls' := [some (.ref (wA w (n))), some (.int (nI (cn (fun c => ¬ h (n + 2) c = (-1 : Int32)) (j) + 1))), some (.int (nI (j)))]) C (D (18, .iinc 1 1, 3) (mg 11 rfl)) rfl (nI_add (cn (fun c => ¬ h (n + 2) c = (-1 : Int32)) (j)) 1) rfl ?_
          refine X_iinc (v := nI (j + 1)) (ls' := [some (.ref (wA w (n))), some (.int (nI (cn (fun c => ¬ h (n + 2) c = (-1 : Int32)) (j) + 1))), some (.int (nI (j + 1)))]) C (D (21, .iinc 2 1, 3) (mg 12 rfl)) rfl (nI_add (j) 1) rfl ?_
          refine X_goto (tgt := 4) C (D (24, .goto (-20), 3) (mg 13 rfl)) (by decide) ?_
          refine X_eq (ls' := [some (.ref (wA w (n))), some (.int (nI (cn (fun c => ¬ h (n + 2) c = (-1 : Int32)) (j + 1)))), some (.int (nI (j + 1)))]) (st' := []) (h' := h) (g' := g) (by rw [cn_t (p := fun c => ¬ h (n + 2) c = (-1 : Int32)) (by assumption)]) rfl rfl rfl ?_
          exact ih4 (j + 1) (by omega) (by omega)
  refine X_eq (ls' := [some (.ref (wA w (n))), some (.int (nI (cn (fun c => ¬ h (n + 2) c = (-1 : Int32)) (0)))), some (.int (nI (0)))]) (st' := []) (h' := h) (g' := g) rfl rfl rfl rfl ?_
  exact lp4 _ (0) (by omega) (Nat.le_refl _)
