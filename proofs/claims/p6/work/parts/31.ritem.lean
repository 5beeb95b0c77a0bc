/-! THE REFERENCE, 14: items, read, weak -/
theorem wks_ne (Q : Nat) {q i : Nat} (hn : q ≠ Q ∨ ((i < 3 ∨ 28 ≤ i) ∧ i ≠ 29)) : ∀ (n : Nat) (h : xI), wks Q n h q i = h q i
  | 0, h => rfl
  | n + 1, h => by
    show (if nI 9999 ≤ h Q 29 then h else wks Q n (wkH h Q)) q i = _
    split
    · rfl
    · rw [wks_ne Q hn n, wkH_ne h Q hn]
theorem bgH_ne (h : xI) (Q : Nat) (kd c : Int32) {q i : Nat} (hn : q ≠ Q ∨ 94 ≤ i) : bgH h Q kd c q i = h q i := by
  unfold bgH
  rw [u2_ne _ _ _ _ (by omega), u2_ne _ _ _ _ (by omega), mp_ne _ _ _ _ _ (by omega)]
theorem bgH_28 (h : xI) (Q : Nat) (kd c : Int32) : bgH h Q kd c Q 28 = c := u2_s _ _ _ _
theorem bgH_0 (h : xI) (Q : Nat) (kd c : Int32) {i : Nat} (hi : i < 28) : bgH h Q kd c Q i = nI 0 := by
  unfold bgH
  rw [u2_ne _ _ _ _ (by omega), u2_ne _ _ _ _ (by omega)]
  unfold mp
  rw [if_pos (by omega)]
  rfl
theorem pW_t {m n a a' : Nat} {h h1 h2 : xI} (x : pW m n a h h1) (b : pW m n a' h1 h2) (ha : a ≤ a') : pW m n a h h2 := by
  obtain ⟨b1, ⟨p, q, c1, c2⟩, b3⟩ := b
  exact ⟨fun q i z1 z2 z3 => (b1 q i z1 z2 z3).trans (x.1 q i z1 z2 z3), ⟨p, q, by omega, c2⟩, b3⟩
set_option maxHeartbeats 4000000 in
set_option maxRecDepth 100000 in
theorem ct_X8_takesStony {l : Launch} {w : Kw} (hw : wOk w) {m : Nat} (hM : shM w m) {n a l0 : Nat} (hn : n ≤ 150) (hal : a + l0 ≤ n) (h : xI) (g : xJ) (hb : h m 11 = nI n) (ea : h m 12 = nI a) (el : h m 13 = nI l0) (hd : h m 14 = 0 ∨ 1 ≤ l0) (hao : aOk h m) : Ct l w yX8_takesStony cX8_takesStony 1 (some .boolean) 5 112 [.ref (wA w (m))] h g (pB (fun _ h' => pW m n a h h')) := by
  refine Ct_of (ls := [some (.ref (wA w (m)))]) (by decide) hw (Nat.le_of_ble_eq_true rfl) rfl (fun k hkl C => ?_)
  have C : Cx k w cX8_takesStony RX8 1 (some .boolean) 5 112 := C
  have D := dtX8_takesStony
  subst hkl
  have hM0 := hM
  obtain ⟨hm, hsm, hs1, hs2, hs3, hs4, hs5, hs6, hs7, hs8, hs9, hs10, hs11⟩ := hM
  have hM := hM0
  obtain ⟨ao0, ao1, ao2, c0, hc0, ao28⟩ := hao
  refine X_aload_n C 0 (D (0, .aload_n 0, 1) (mg 0 rfl)) rfl rfl ?_
  refine X_cV (As := []) (st := []) C (post := _) (m) (by omega) hsm rfl (ct_X8_goBehind hw hM (n := n) (a := a) (l0 := l0) (by omega) (by omega) h g (hb) (ea) (el)) kX8_271 (by decide) (by decide) rfl rfl (Nat.le_of_ble_eq_true rfl) (D (1, .invokevirtual 271, 3) (mg 1 rfl)) rfl (fun v3 H1 G2 hv3 => ?_)
  obtain ⟨rfl, f4, a5, l6, hga5, hsa5, ea5, el6, hda5⟩ := hv3
  show X k w _ 4 [some (.ref (wA w (m)))] [] H1 G2
  refine X_aload_n C 0 (D (4, .aload_n 0, 1) (mg 2 rfl)) rfl rfl ?_
  refine X_iconst (v := nI (0)) C (D (5, .iconst 0, 1) (mg 3 rfl)) (by decide) ?_
  refine X_iconst (v := nI (0)) C (D (6, .iconst 0, 1) (mg 4 rfl)) (by decide) ?_
  refine X_bipush (v := nI (24)) C (D (7, .bipush 24, 2) (mg 5 rfl)) (by decide) ?_
  refine X_cV (As := [.int (nI (0)), .int (nI (0)), .int (nI (24))]) (st := []) C (post := _) (m) (by omega) hsm rfl (ct_X8_takes hw hM (n := n) (a := a5) (l0 := l6) (by omega) (by omega) (K := 0) (A := 0) (B := 24) (by decide) (by decide) H1 G2 (((f4 _ _ (by omega))).trans hb) (ea5) (el6) hda5) kX8_274 (by decide) (by decide) rfl rfl (Nat.le_of_ble_eq_true rfl) (D (9, .invokevirtual 274, 3) (mg 6 rfl)) rfl (fun v9 H7 G8 hv9 => ?_)
  obtain ⟨y10, rfl, h01y10, f11, ⟨a12, l13, hga12, hsa12, ea12, el13, hda12⟩, hqy10⟩ := hv9
  show X k w _ 12 [some (.ref (wA w (m)))] [.int (y10)] H7 G8
  refine X_if_eq (tgt := 25) C (D (12, .ifCond .eq 13, 3) (mg 7 rfl)) (by decide) (fun q14 => ?_) (fun q14 => ?_)
  · skip
    refine X_iconst (v := nI (0)) C (D (25, .iconst 0, 1) (mg 14 rfl)) (by decide) ?_
    exact X_zret C (D (26, .ireturn, 1) (mg 15 rfl)) rfl ⟨_, rfl, Or.inl rfl, ⟨fun q i z1 z2 z3 => by rw [f11 _ _ (by omega) (by omega), f4 _ _ (by omega)], ⟨a12, l13, by omega, by omega, (ea12), (el13), hda12⟩, ⟨((((f11 _ _ (by omega) (by omega))).trans (f4 _ _ (by omega))).trans ao0), ((((f11 _ _ (by omega) (by omega))).trans (f4 _ _ (by omega))).trans ao1), ((((f11 _ _ (by omega) (by omega))).trans (f4 _ _ (by omega))).trans ao2), c0, by omega, ((((f11 _ _ (by omega) (by omega))).trans (f4 _ _ (by omega))).trans ao28)⟩⟩⟩
  · skip
    obtain ⟨v15, hlv15, huv15, ev15⟩ := hqy10 q14
    refine X_aload_n C 0 (D (15, .aload_n 0, 1) (mg 8 rfl)) rfl rfl ?_
    refine X_iconst (v := nI (1)) C (D (16, .iconst 1, 1) (mg 9 rfl)) (by decide) ?_
    refine X_iconst (v := nI (0)) C (D (17, .iconst 0, 1) (mg 10 rfl)) (by decide) ?_
    refine X_iconst (v := nI (4)) C (D (18, .iconst 4, 1) (mg 11 rfl)) (by decide) ?_
    refine X_cV (As := [.int (nI (1)), .int (nI (0)), .int (nI (4))]) (st := []) C (post := _) (m) (by omega) hsm rfl (ct_X8_takes hw hM (n := n) (a := a12) (l0 := l13) (by omega) (by omega) (K := 1) (A := 0) (B := 4) (by decide) (by decide) H7 G8 ((((f11 _ _ (by omega) (by omega))).trans (f4 _ _ (by omega))).trans hb) (ea12) (el13) hda12) kX8_274 (by decide) (by decide) rfl rfl (Nat.le_of_ble_eq_true rfl) (D (19, .invokevirtual 274, 3) (mg 12 rfl)) rfl (fun v18 H16 G17 hv18 => ?_)
    obtain ⟨y19, rfl, h01y19, f20, ⟨a21, l22, hga21, hsa21, ea21, el22, hda21⟩, hqy19⟩ := hv18
    show X k w _ 22 [some (.ref (wA w (m)))] [.int (y19)] H16 G17
    refine X_if_ne (tgt := 27) C (D (22, .ifCond .ne 5, 3) (mg 13 rfl)) (by decide) (fun q23 => ?_) (fun q23 => ?_)
    · skip
      obtain ⟨v24, hlv24, huv24, ev24⟩ := hqy19 q23
      refine X_aload_n C 0 (D (27, .aload_n 0, 1) (mg 16 rfl)) rfl rfl ?_
      refine X_get (v := .ref (wA w (m + 10))) C (m) 16 (by omega) hsm rfl rfl (by decide) inX8 fX8_42 rfl (D (28, .getfield 42, 3) (mg 17 rfl)) rfl ?_
      refine X_bipush (v := nI (31)) C (D (31, .bipush 31, 2) (mg 18 rfl)) (by decide) ?_
      refine X_aload_n C 0 (D (33, .aload_n 0, 1) (mg 19 rfl)) rfl rfl ?_
      refine X_get (v := .ref (wA w (m + 11))) C (m) 17 (by omega) hsm rfl rfl (by decide) inX8 fX8_45 rfl (D (34, .getfield 45, 3) (mg 20 rfl)) rfl ?_
      refine X_iconst (v := nI (0)) C (D (37, .iconst 0, 1) (mg 21 rfl)) (by decide) ?_
      refine X_iald (v := H16 (m + 11) (0)) C (m + 11) (by omega) hs11 (vp_in_nI (by omega) (by omega)) (D (38, .iaload, 1) (mg 22 rfl)) (by rw [nI_clamp (by omega)]) ?_
      refine X_ti (y := nI (v15)) (((f20 _ _ (by omega) (by omega))).trans ev15) ?_
      refine X_iadd C (D (39, .iadd, 1) (mg 23 rfl)) ?_
      refine X_ti (y := nI (31 + v15)) (nI_add (31) (v15)) ?_
      refine X_aload_n C 0 (D (40, .aload_n 0, 1) (mg 24 rfl)) rfl rfl ?_
      refine X_get (v := .ref (wA w (m + 11))) C (m) 17 (by omega) hsm rfl rfl (by decide) inX8 fX8_45 rfl (D (41, .getfield 45, 3) (mg 25 rfl)) rfl ?_
      refine X_iconst (v := nI (1)) C (D (44, .iconst 1, 1) (mg 26 rfl)) (by decide) ?_
      refine X_iald (v := H16 (m + 11) (1)) C (m + 11) (by omega) hs11 (vp_in_nI (by omega) (by omega)) (D (45, .iaload, 1) (mg 27 rfl)) (by rw [nI_clamp (by omega)]) ?_
      refine X_ti (y := nI (v24)) (ev24) ?_
      refine X_iast (j := 31 + v15) C (m + 10) (by omega) hs10 (vp_in_nI (by omega) (by omega)) (D (46, .iastore, 1) (mg 28 rfl)) (nI_clamp (by omega)) ?_
      refine X_iconst (v := nI (1)) C (D (47, .iconst 1, 1) (mg 29 rfl)) (by decide) ?_
      exact X_zret C (D (48, .ireturn, 1) (mg 30 rfl)) rfl ⟨_, rfl, Or.inr rfl, ⟨fun q i z1 z2 z3 => by rw [u2_ne _ _ _ _ (by omega), f20 _ _ (by omega) (by omega), f11 _ _ (by omega) (by omega), f4 _ _ (by omega)], ⟨a21, l22, by omega, by omega, (((u2_p _ _ _ _ (by omega))).trans ea21), (((u2_p _ _ _ _ (by omega))).trans el22), (by rw [u2_ne _ _ _ _ (by omega)]; exact hda21)⟩, ⟨((((((u2_i _ _ _ _ (by omega))).trans (f20 _ _ (by omega) (by omega))).trans (f11 _ _ (by omega) (by omega))).trans (f4 _ _ (by omega))).trans ao0), ((((((u2_i _ _ _ _ (by omega))).trans (f20 _ _ (by omega) (by omega))).trans (f11 _ _ (by omega) (by omega))).trans (f4 _ _ (by omega))).trans ao1), ((((((u2_i _ _ _ _ (by omega))).trans (f20 _ _ (by omega) (by omega))).trans (f11 _ _ (by omega) (by omega))).trans (f4 _ _ (by omega))).trans ao2), c0, by omega, ((((((u2_i _ _ _ _ (by omega))).trans (f20 _ _ (by omega) (by omega))).trans (f11 _ _ (by omega) (by omega))).trans (f4 _ _ (by omega))).trans ao28)⟩⟩⟩
    · skip
      refine X_iconst (v := nI (0)) C (D (25, .iconst 0, 1) (mg 14 rfl)) (by decide) ?_
      exact X_zret C (D (26, .ireturn, 1) (mg 15 rfl)) rfl ⟨_, rfl, Or.inl rfl, ⟨fun q i z1 z2 z3 => by rw [f20 _ _ (by omega) (by omega), f11 _ _ (by omega) (by omega), f4 _ _ (by omega)], ⟨a21, l22, by omega, by omega, (ea21), (el22), hda21⟩, ⟨(((((f20 _ _ (by omega) (by omega))).trans (f11 _ _ (by omega) (by omega))).trans (f4 _ _ (by omega))).trans ao0), (((((f20 _ _ (by omega) (by omega))).trans (f11 _ _ (by omega) (by omega))).trans (f4 _ _ (by omega))).trans ao1), (((((f20 _ _ (by omega) (by omega))).trans (f11 _ _ (by omega) (by omega))).trans (f4 _ _ (by omega))).trans ao2), c0, by omega, (((((f20 _ _ (by omega) (by omega))).trans (f11 _ _ (by omega) (by omega))).trans (f4 _ _ (by omega))).trans ao28)⟩⟩⟩
set_option maxHeartbeats 4000000 in
set_option maxRecDepth 100000 in
theorem ct_X8_takesSaying {l : Launch} {w : Kw} (hw : wOk w) {m : Nat} (hM : shM w m) {n a l0 : Nat} (hn : n ≤ 150) (hal : a + l0 ≤ n) (h : xI) (g : xJ) (hb : h m 11 = nI n) (ea : h m 12 = nI a) (el : h m 13 = nI l0) (hd : h m 14 = 0 ∨ 1 ≤ l0) (hao : aOk h m) : Ct l w yX8_takesSaying cX8_takesSaying 1 (some .boolean) 5 112 [.ref (wA w (m))] h g (pB (fun _ h' => pW m n a h h')) := by
  refine Ct_of (ls := [some (.ref (wA w (m)))]) (by decide) hw (Nat.le_of_ble_eq_true rfl) rfl (fun k hkl C => ?_)
  have C : Cx k w cX8_takesSaying RX8 1 (some .boolean) 5 112 := C
  have D := dtX8_takesSaying
  subst hkl
  have hM0 := hM
  obtain ⟨hm, hsm, hs1, hs2, hs3, hs4, hs5, hs6, hs7, hs8, hs9, hs10, hs11⟩ := hM
  have hM := hM0
  obtain ⟨ao0, ao1, ao2, c0, hc0, ao28⟩ := hao
  refine X_aload_n C 0 (D (0, .aload_n 0, 1) (mg 0 rfl)) rfl rfl ?_
  refine X_cV (As := []) (st := []) C (post := _) (m) (by omega) hsm rfl (ct_X8_goBehind hw hM (n := n) (a := a) (l0 := l0) (by omega) (by omega) h g (hb) (ea) (el)) kX8_271 (by decide) (by decide) rfl rfl (Nat.le_of_ble_eq_true rfl) (D (1, .invokevirtual 271, 3) (mg 1 rfl)) rfl (fun v3 H1 G2 hv3 => ?_)
  obtain ⟨rfl, f4, a5, l6, hga5, hsa5, ea5, el6, hda5⟩ := hv3
  show X k w _ 4 [some (.ref (wA w (m)))] [] H1 G2
  refine X_aload_n C 0 (D (4, .aload_n 0, 1) (mg 2 rfl)) rfl rfl ?_
  refine X_get (v := .int (H1 (m) 14)) C (m) 14 (by omega) hsm rfl rfl (by decide) inX8 fX8_256 rfl (D (5, .getfield 256, 3) (mg 3 rfl)) rfl ?_
  refine X_iconst (v := nI (2)) C (D (8, .iconst 2, 1) (mg 4 rfl)) (by decide) ?_
  refine X_icmp_ne (tgt := 57) C (D (9, .if_icmp .ne 48, 3) (mg 5 rfl)) (by decide) (fun q7 => ?_) (fun q7 => ?_)
  · skip
    refine X_iconst (v := nI (0)) C (D (57, .iconst 0, 1) (mg 28 rfl)) (by decide) ?_
    exact X_zret C (D (58, .ireturn, 1) (mg 29 rfl)) rfl ⟨_, rfl, Or.inl rfl, ⟨fun q i z1 z2 z3 => by rw [f4 _ _ (by omega)], ⟨a5, l6, by omega, by omega, (ea5), (el6), hda5⟩, ⟨(((f4 _ _ (by omega))).trans ao0), (((f4 _ _ (by omega))).trans ao1), (((f4 _ _ (by omega))).trans ao2), c0, by omega, (((f4 _ _ (by omega))).trans ao28)⟩⟩⟩
  · skip
    refine X_aload_n C 0 (D (12, .aload_n 0, 1) (mg 6 rfl)) rfl rfl ?_
    refine X_get (v := .int (H1 (m) 15)) C (m) 15 (by omega) hsm rfl rfl (by decide) inX8 fX8_259 rfl (D (13, .getfield 259, 3) (mg 7 rfl)) rfl ?_
    refine X_cS (As := [.int (H1 (m) 15)]) (st := []) C (post := _) (ct_X8_isCell hw (H1 (m) 15) H1 G2) kX8_72 (by decide) (by decide) rfl rfl (Nat.le_of_ble_eq_true rfl) (D (16, .invokestatic 72, 3) (mg 8 rfl)) rfl (fun v10 H8 G9 hv10 => ?_)
    obtain ⟨rfl, rfl, rfl⟩ := hv10
    show X k w _ 19 [some (.ref (wA w (m)))] [.int (if 0 ≤ (H1 (m) 15).toInt ∧ (H1 (m) 15).toInt < 25 then 1 else 0)] H1 G2
    refine X_if_eq (tgt := 57) C (D (19, .ifCond .eq 38, 3) (mg 9 rfl)) (by decide) (fun q11 => ?_) (fun q11 => ?_)
    · skip
      have q11 : ¬ (0 ≤ (H1 (m) 15).toInt ∧ (H1 (m) 15).toInt < 25) := bz0.mp q11
      refine X_iconst (v := nI (0)) C (D (57, .iconst 0, 1) (mg 28 rfl)) (by decide) ?_
      exact X_zret C (D (58, .ireturn, 1) (mg 29 rfl)) rfl ⟨_, rfl, Or.inl rfl, ⟨fun q i z1 z2 z3 => by rw [f4 _ _ (by omega)], ⟨a5, l6, by omega, by omega, (ea5), (el6), hda5⟩, ⟨(((f4 _ _ (by omega))).trans ao0), (((f4 _ _ (by omega))).trans ao1), (((f4 _ _ (by omega))).trans ao2), c0, by omega, (((f4 _ _ (by omega))).trans ao28)⟩⟩⟩
    · skip
      have q11 : (0 ≤ (H1 (m) 15).toInt ∧ (H1 (m) 15).toInt < 25) := bz1.mp q11
      obtain ⟨v12, hv12, ev12⟩ := nI_i (x := H1 m 15) (n := 25) q11.1 (by omega)
      refine X_aload_n C 0 (D (22, .aload_n 0, 1) (mg 10 rfl)) rfl rfl ?_
      refine X_get (v := .ref (wA w (m + 10))) C (m) 16 (by omega) hsm rfl rfl (by decide) inX8 fX8_42 rfl (D (23, .getfield 42, 3) (mg 11 rfl)) rfl ?_
      refine X_aload_n C 0 (D (26, .aload_n 0, 1) (mg 12 rfl)) rfl rfl ?_
      refine X_get (v := .int (H1 (m) 15)) C (m) 15 (by omega) hsm rfl rfl (by decide) inX8 fX8_259 rfl (D (27, .getfield 259, 3) (mg 13 rfl)) rfl ?_
      refine X_ti (y := nI (v12)) (ev12) ?_
      refine X_cS (As := [.ref (wA w (m + 10)), .int (nI (v12))]) (st := []) C (post := _) (ct_X8_lies hw (⟨by omega, hs10, by omega, by omega⟩ : rw56 w (m + 10) 94) (by omega) H1 G2) kX8_64 (by decide) (by decide) rfl rfl (Nat.le_of_ble_eq_true rfl) (D (30, .invokestatic 64, 3) (mg 14 rfl)) rfl (fun v15 H13 G14 hv15 => ?_)
      obtain ⟨rfl, rfl, rfl⟩ := hv15
      show X k w _ 33 [some (.ref (wA w (m)))] [.int (if ¬ H1 (m + 10) (3 + (v12)) = 0 then 1 else 0)] H1 G2
      refine X_if_ne (tgt := 57) C (D (33, .ifCond .ne 24, 3) (mg 15 rfl)) (by decide) (fun q16 => ?_) (fun q16 => ?_)
      · skip
        have q16 : (¬ H1 (m + 10) (3 + (v12)) = 0) := bz1.mp q16
        refine X_iconst (v := nI (0)) C (D (57, .iconst 0, 1) (mg 28 rfl)) (by decide) ?_
        exact X_zret C (D (58, .ireturn, 1) (mg 29 rfl)) rfl ⟨_, rfl, Or.inl rfl, ⟨fun q i z1 z2 z3 => by rw [f4 _ _ (by omega)], ⟨a5, l6, by omega, by omega, (ea5), (el6), hda5⟩, ⟨(((f4 _ _ (by omega))).trans ao0), (((f4 _ _ (by omega))).trans ao1), (((f4 _ _ (by omega))).trans ao2), c0, by omega, (((f4 _ _ (by omega))).trans ao28)⟩⟩⟩
      · skip
        have q16 : ¬ (¬ H1 (m + 10) (3 + (v12)) = 0) := bz0.mp q16
        refine X_aload_n C 0 (D (36, .aload_n 0, 1) (mg 16 rfl)) rfl rfl ?_
        refine X_iconst (v := nI (0)) C (D (37, .iconst 0, 1) (mg 17 rfl)) (by decide) ?_
        refine X_iconst (v := nI (0)) C (D (38, .iconst 0, 1) (mg 18 rfl)) (by decide) ?_
        refine X_bipush (v := nI (24)) C (D (39, .bipush 24, 2) (mg 19 rfl)) (by decide) ?_
        refine X_cV (As := [.int (nI (0)), .int (nI (0)), .int (nI (24))]) (st := []) C (post := _) (m) (by omega) hsm rfl (ct_X8_takes hw hM (n := n) (a := a5) (l0 := l6) (by omega) (by omega) (K := 0) (A := 0) (B := 24) (by decide) (by decide) H1 G2 (((f4 _ _ (by omega))).trans hb) (ea5) (el6) hda5) kX8_274 (by decide) (by decide) rfl rfl (Nat.le_of_ble_eq_true rfl) (D (41, .invokevirtual 274, 3) (mg 20 rfl)) rfl (fun v19 H17 G18 hv19 => ?_)
        obtain ⟨y20, rfl, h01y20, f21, ⟨a22, l23, hga22, hsa22, ea22, el23, hda22⟩, hqy20⟩ := hv19
        show X k w _ 44 [some (.ref (wA w (m)))] [.int (y20)] H17 G18
        refine X_if_eq (tgt := 57) C (D (44, .ifCond .eq 13, 3) (mg 21 rfl)) (by decide) (fun q24 => ?_) (fun q24 => ?_)
        · skip
          refine X_iconst (v := nI (0)) C (D (57, .iconst 0, 1) (mg 28 rfl)) (by decide) ?_
          exact X_zret C (D (58, .ireturn, 1) (mg 29 rfl)) rfl ⟨_, rfl, Or.inl rfl, ⟨fun q i z1 z2 z3 => by rw [f21 _ _ (by omega) (by omega), f4 _ _ (by omega)], ⟨a22, l23, by omega, by omega, (ea22), (el23), hda22⟩, ⟨((((f21 _ _ (by omega) (by omega))).trans (f4 _ _ (by omega))).trans ao0), ((((f21 _ _ (by omega) (by omega))).trans (f4 _ _ (by omega))).trans ao1), ((((f21 _ _ (by omega) (by omega))).trans (f4 _ _ (by omega))).trans ao2), c0, by omega, ((((f21 _ _ (by omega) (by omega))).trans (f4 _ _ (by omega))).trans ao28)⟩⟩⟩
        · skip
          obtain ⟨v25, hlv25, huv25, ev25⟩ := hqy20 q24
          refine X_aload_n C 0 (D (47, .aload_n 0, 1) (mg 22 rfl)) rfl rfl ?_
          refine X_iconst (v := nI (1)) C (D (48, .iconst 1, 1) (mg 23 rfl)) (by decide) ?_
          refine X_iconst (v := nI (0)) C (D (49, .iconst 0, 1) (mg 24 rfl)) (by decide) ?_
          refine X_iconst (v := nI (5)) C (D (50, .iconst 5, 1) (mg 25 rfl)) (by decide) ?_
          refine X_cV (As := [.int (nI (1)), .int (nI (0)), .int (nI (5))]) (st := []) C (post := _) (m) (by omega) hsm rfl (ct_X8_takes hw hM (n := n) (a := a22) (l0 := l23) (by omega) (by omega) (K := 1) (A := 0) (B := 5) (by decide) (by decide) H17 G18 ((((f21 _ _ (by omega) (by omega))).trans (f4 _ _ (by omega))).trans hb) (ea22) (el23) hda22) kX8_274 (by decide) (by decide) rfl rfl (Nat.le_of_ble_eq_true rfl) (D (51, .invokevirtual 274, 3) (mg 26 rfl)) rfl (fun v28 H26 G27 hv28 => ?_)
          obtain ⟨y29, rfl, h01y29, f30, ⟨a31, l32, hga31, hsa31, ea31, el32, hda31⟩, hqy29⟩ := hv28
          show X k w _ 54 [some (.ref (wA w (m)))] [.int (y29)] H26 G27
          refine X_if_ne (tgt := 59) C (D (54, .ifCond .ne 5, 3) (mg 27 rfl)) (by decide) (fun q33 => ?_) (fun q33 => ?_)
          · skip
            obtain ⟨v34, hlv34, huv34, ev34⟩ := hqy29 q33
            refine X_aload_n C 0 (D (59, .aload_n 0, 1) (mg 30 rfl)) rfl rfl ?_
            refine X_get (v := .ref (wA w (m + 10))) C (m) 16 (by omega) hsm rfl rfl (by decide) inX8 fX8_42 rfl (D (60, .getfield 42, 3) (mg 31 rfl)) rfl ?_
            refine X_aload_n C 0 (D (63, .aload_n 0, 1) (mg 32 rfl)) rfl rfl ?_
            refine X_get (v := .ref (wA w (m + 11))) C (m) 17 (by omega) hsm rfl rfl (by decide) inX8 fX8_45 rfl (D (64, .getfield 45, 3) (mg 33 rfl)) rfl ?_
            refine X_iconst (v := nI (0)) C (D (67, .iconst 0, 1) (mg 34 rfl)) (by decide) ?_
            refine X_iald (v := H26 (m + 11) (0)) C (m + 11) (by omega) hs11 (vp_in_nI (by omega) (by omega)) (D (68, .iaload, 1) (mg 35 rfl)) (by rw [nI_clamp (by omega)]) ?_
            refine X_ti (y := nI (v25)) (((f30 _ _ (by omega) (by omega))).trans ev25) ?_
            refine X_aload_n C 0 (D (69, .aload_n 0, 1) (mg 36 rfl)) rfl rfl ?_
            refine X_get (v := .ref (wA w (m + 11))) C (m) 17 (by omega) hsm rfl rfl (by decide) inX8 fX8_45 rfl (D (70, .getfield 45, 3) (mg 37 rfl)) rfl ?_
            refine X_iconst (v := nI (1)) C (D (73, .iconst 1, 1) (mg 38 rfl)) (by decide) ?_
            refine X_iald (v := H26 (m + 11) (1)) C (m + 11) (by omega) hs11 (vp_in_nI (by omega) (by omega)) (D (74, .iaload, 1) (mg 39 rfl)) (by rw [nI_clamp (by omega)]) ?_
            refine X_ti (y := nI (v34)) (ev34) ?_
            refine X_iconst (v := nI (0)) C (D (75, .iconst 0, 1) (mg 40 rfl)) (by decide) ?_
            refine X_iconst (v := nI (0)) C (D (76, .iconst 0, 1) (mg 41 rfl)) (by decide) ?_
            refine X_cS (As := [.ref (wA w (m + 10)), .int (nI (v25)), .int (nI (v34)), .int (nI (0)), .int (nI (0))]) (st := []) C (post := _) (ct_X8_lay hw (⟨by omega, hs10, by omega, by omega⟩ : rw56 w (m + 10) 94) (by omega) (nI (v34)) (nI (0)) (nI (0)) H26 G27) kX8_117 (by decide) (by decide) rfl rfl (Nat.le_of_ble_eq_true rfl) (D (77, .invokestatic 117, 3) (mg 42 rfl)) rfl (fun v37 H35 G36 hv37 => ?_)
            obtain ⟨rfl, rfl, rfl⟩ := hv37
            show X k w _ 80 [some (.ref (wA w (m)))] [] (u2 H26 (m + 10) (3 + (v25)) (mV (nI (v34)) (nI (0)) (nI (0)))) G27
            refine X_iconst (v := nI (1)) C (D (80, .iconst 1, 1) (mg 43 rfl)) (by decide) ?_
            exact X_zret C (D (81, .ireturn, 1) (mg 44 rfl)) rfl ⟨_, rfl, Or.inr rfl, ⟨fun q i z1 z2 z3 => by rw [u2_ne _ _ _ _ (by omega), f30 _ _ (by omega) (by omega), f21 _ _ (by omega) (by omega), f4 _ _ (by omega)], ⟨a31, l32, by omega, by omega, (((u2_p _ _ _ _ (by omega))).trans ea31), (((u2_p _ _ _ _ (by omega))).trans el32), (by rw [u2_ne _ _ _ _ (by omega)]; exact hda31)⟩, ⟨((((((u2_i _ _ _ _ (by omega))).trans (f30 _ _ (by omega) (by omega))).trans (f21 _ _ (by omega) (by omega))).trans (f4 _ _ (by omega))).trans ao0), ((((((u2_i _ _ _ _ (by omega))).trans (f30 _ _ (by omega) (by omega))).trans (f21 _ _ (by omega) (by omega))).trans (f4 _ _ (by omega))).trans ao1), ((((((u2_i _ _ _ _ (by omega))).trans (f30 _ _ (by omega) (by omega))).trans (f21 _ _ (by omega) (by omega))).trans (f4 _ _ (by omega))).trans ao2), c0, by omega, ((((((u2_i _ _ _ _ (by omega))).trans (f30 _ _ (by omega) (by omega))).trans (f21 _ _ (by omega) (by omega))).trans (f4 _ _ (by omega))).trans ao28)⟩⟩⟩
          · skip
            refine X_iconst (v := nI (0)) C (D (57, .iconst 0, 1) (mg 28 rfl)) (by decide) ?_
            exact X_zret C (D (58, .ireturn, 1) (mg 29 rfl)) rfl ⟨_, rfl, Or.inl rfl, ⟨fun q i z1 z2 z3 => by rw [f30 _ _ (by omega) (by omega), f21 _ _ (by omega) (by omega), f4 _ _ (by omega)], ⟨a31, l32, by omega, by omega, (ea31), (el32), hda31⟩, ⟨(((((f30 _ _ (by omega) (by omega))).trans (f21 _ _ (by omega) (by omega))).trans (f4 _ _ (by omega))).trans ao0), (((((f30 _ _ (by omega) (by omega))).trans (f21 _ _ (by omega) (by omega))).trans (f4 _ _ (by omega))).trans ao1), (((((f30 _ _ (by omega) (by omega))).trans (f21 _ _ (by omega) (by omega))).trans (f4 _ _ (by omega))).trans ao2), c0, by omega, (((((f30 _ _ (by omega) (by omega))).trans (f21 _ _ (by omega) (by omega))).trans (f4 _ _ (by omega))).trans ao28)⟩⟩⟩
set_option maxHeartbeats 4000000 in
set_option maxRecDepth 100000 in
theorem ct_X8_takesDrag {l : Launch} {w : Kw} (hw : wOk w) {m : Nat} (hM : shM w m) {n a l0 : Nat} (hn : n ≤ 150) (hal : a + l0 ≤ n) (h : xI) (g : xJ) (hb : h m 11 = nI n) (ea : h m 12 = nI a) (el : h m 13 = nI l0) (hd : h m 14 = 0 ∨ 1 ≤ l0) (hao : aOk h m) : Ct l w yX8_takesDrag cX8_takesDrag 2 (some .boolean) 4 91 [.ref (wA w (m))] h g (pB (fun _ h' => pW m n a h h')) := by
  refine Ct_of (ls := [some (.ref (wA w (m))), none]) (by decide) hw (Nat.le_of_ble_eq_true rfl) rfl (fun k hkl C => ?_)
  have C : Cx k w cX8_takesDrag RX8 2 (some .boolean) 4 91 := C
  have D := dtX8_takesDrag
  subst hkl
  have hM0 := hM
  obtain ⟨hm, hsm, hs1, hs2, hs3, hs4, hs5, hs6, hs7, hs8, hs9, hs10, hs11⟩ := hM
  have hM := hM0
  obtain ⟨ao0, ao1, ao2, c0, hc0, ao28⟩ := hao
  refine X_iconst (v := nI (0)) C (D (0, .iconst 0, 1) (mg 0 rfl)) (by decide) ?_
  refine X_istore_n (ls' := [some (.ref (wA w (m))), some (.int (nI (0)))]) C 1 (D (1, .istore_n 1, 1) (mg 1 rfl)) rfl (Nat.le_of_ble_eq_true rfl) rfl ?_
  refine X_aload_n C 0 (D (2, .aload_n 0, 1) (mg 2 rfl)) rfl rfl ?_
  refine X_cV (As := []) (st := []) C (post := _) (m) (by omega) hsm rfl (ct_X8_goBehind hw hM (n := n) (a := a) (l0 := l0) (by omega) (by omega) h g (hb) (ea) (el)) kX8_271 (by decide) (by decide) rfl rfl (Nat.le_of_ble_eq_true rfl) (D (3, .invokevirtual 271, 3) (mg 3 rfl)) rfl (fun v3 H1 G2 hv3 => ?_)
  obtain ⟨rfl, f4, a5, l6, hga5, hsa5, ea5, el6, hda5⟩ := hv3
  show X k w _ 6 [some (.ref (wA w (m))), some (.int (nI (0)))] [] H1 G2
  have lp6 : ∀ (nn6 : Nat) (j : Nat) (hp6 : xI) (gp6 : xJ), (j ≤ 9) → (pW m n a h hp6) → 10 - j ≤ nn6 → X k w (Zq k w (pB (fun _ h' => pW m n a h h'))) 6 [some (.ref (wA w (m))), some (.int (nI (j)))] [] hp6 gp6 := by
    intro nn6
    induction nn6 with
    | zero => intro j hp6 gp6 hc6_0 hc6_1 hz; exact absurd hz (by omega)
    | succ nn6 ih6 =>
      intro j hp6 gp6 hc6_0 hc6_1 hz6
      obtain ⟨⟨a7, l8, hga7, hsa7, ea7, el8, hda7⟩, ⟨z0a7, z1a7, z2a7, c9, hc9, ec9⟩⟩ := (hc6_1).2
      refine X_iload_n C 1 (D (6, .iload_n 1, 1) (mg 4 rfl)) rfl rfl ?_
      refine X_if_eq (tgt := 18) C (D (7, .ifCond .eq 11, 3) (mg 5 rfl)) (by decide) (fun q10 => ?_) (fun q10 => ?_)
      · skip
        have q10 : (j) = (0) := by have z := (nI_eq (a := (j)) (b := (0)) (by omega) (by omega)).mp q10; omega
        refine X_iload_n C 1 (D (18, .iload_n 1, 1) (mg 10 rfl)) rfl rfl ?_
        refine X_bipush (v := nI (9)) C (D (19, .bipush 9, 2) (mg 11 rfl)) (by decide) ?_
        refine X_icmp_eq (tgt := 65) C (D (21, .if_icmp .eq 44, 3) (mg 12 rfl)) (by decide) (fun q11 => ?_) (fun q11 => ?_)
        · skip
          have q11 : (j) = (9) := by have z := (nI_eq (a := (j)) (b := (9)) (by omega) (by omega)).mp q11; omega
          refine X_iconst (v := nI (0)) C (D (65, .iconst 0, 1) (mg 33 rfl)) (by decide) ?_
          exact X_zret C (D (66, .ireturn, 1) (mg 34 rfl)) rfl ⟨_, rfl, Or.inl rfl, hc6_1⟩
        · skip
          have q11 : (j) ≠ (9) := by have z : ¬ ((j) = (9)) := fun u => q11 ((nI_eq (a := (j)) (b := (9)) (by omega) (by omega)).mpr u); omega
          refine X_aload_n C 0 (D (24, .aload_n 0, 1) (mg 13 rfl)) rfl rfl ?_
          refine X_get (v := .int (hp6 (m) 14)) C (m) 14 (by omega) hsm rfl rfl (by decide) inX8 fX8_256 rfl (D (25, .getfield 256, 3) (mg 14 rfl)) rfl ?_
          refine X_iconst (v := nI (2)) C (D (28, .iconst 2, 1) (mg 15 rfl)) (by decide) ?_
          refine X_icmp_ne (tgt := 65) C (D (29, .if_icmp .ne 36, 3) (mg 16 rfl)) (by decide) (fun q12 => ?_) (fun q12 => ?_)
          · skip
            refine X_iconst (v := nI (0)) C (D (65, .iconst 0, 1) (mg 33 rfl)) (by decide) ?_
            exact X_zret C (D (66, .ireturn, 1) (mg 34 rfl)) rfl ⟨_, rfl, Or.inl rfl, hc6_1⟩
          · skip
            refine X_aload_n C 0 (D (32, .aload_n 0, 1) (mg 17 rfl)) rfl rfl ?_
            refine X_get (v := .int (hp6 (m) 15)) C (m) 15 (by omega) hsm rfl rfl (by decide) inX8 fX8_259 rfl (D (33, .getfield 259, 3) (mg 18 rfl)) rfl ?_
            refine X_i2l C (D (36, .i2l, 1) (mg 19 rfl)) ?_
            refine X_lconst (v := lN 0) C (D (37, .lconst 0, 1) (mg 20 rfl)) (by decide) ?_
            refine X_ldc2 C (D (38, .ldc2_w 132, 3) (mg 21 rfl)) vX8_132 ?_
            refine X_tl (y := lN (3)) rfl ?_
            refine X_cS (As := [.long ((hp6 (m) 15).toInt64), .long (lN (0)), .long (lN (3))]) (st := []) C (post := _) (ct_X8_in hw ((hp6 (m) 15).toInt64) (lN (0)) (lN (3)) hp6 gp6) kX8_54 (by decide) (by decide) rfl rfl (Nat.le_of_ble_eq_true rfl) (D (41, .invokestatic 54, 3) (mg 22 rfl)) rfl (fun v15 H13 G14 hv15 => ?_)
            obtain ⟨rfl, rfl, rfl⟩ := hv15
            show X k w _ 44 [some (.ref (wA w (m))), some (.int (nI (j)))] [.int (if (lN (0)).toInt ≤ ((hp6 (m) 15).toInt64).toInt ∧ ((hp6 (m) 15).toInt64).toInt ≤ (lN (3)).toInt then 1 else 0)] hp6 gp6
            refine X_if_eq (tgt := 65) C (D (44, .ifCond .eq 21, 3) (mg 23 rfl)) (by decide) (fun q16 => ?_) (fun q16 => ?_)
            · skip
              have q16 : ¬ ((lN (0)).toInt ≤ ((hp6 (m) 15).toInt64).toInt ∧ ((hp6 (m) 15).toInt64).toInt ≤ (lN (3)).toInt) := bz0.mp q16
              simp only [i6, pk_lT (n := 0) (by omega), pk_lT (n := 3) (by omega)] at q16
              refine X_iconst (v := nI (0)) C (D (65, .iconst 0, 1) (mg 33 rfl)) (by decide) ?_
              exact X_zret C (D (66, .ireturn, 1) (mg 34 rfl)) rfl ⟨_, rfl, Or.inl rfl, hc6_1⟩
            · skip
              have q16 : ((lN (0)).toInt ≤ ((hp6 (m) 15).toInt64).toInt ∧ ((hp6 (m) 15).toInt64).toInt ≤ (lN (3)).toInt) := bz1.mp q16
              simp only [i6, pk_lT (n := 0) (by omega), pk_lT (n := 3) (by omega)] at q16
              refine X_aload_n C 0 (D (47, .aload_n 0, 1) (mg 24 rfl)) rfl rfl ?_
              refine X_get (v := .ref (wA w (m + 10))) C (m) 16 (by omega) hsm rfl rfl (by decide) inX8 fX8_42 rfl (D (48, .getfield 42, 3) (mg 25 rfl)) rfl ?_
              refine X_bipush (v := nI (28)) C (D (51, .bipush 28, 2) (mg 26 rfl)) (by decide) ?_
              refine X_iald (v := hp6 (m + 10) (28)) C (m + 10) (by omega) hs10 (vp_in_nI (by omega) (by omega)) (D (53, .iaload, 1) (mg 27 rfl)) (by rw [nI_clamp (by omega)]) ?_
              refine X_ti (y := nI (c9)) (ec9) ?_
              refine X_aload_n C 0 (D (54, .aload_n 0, 1) (mg 28 rfl)) rfl rfl ?_
              refine X_get (v := .int (hp6 (m) 15)) C (m) 15 (by omega) hsm rfl rfl (by decide) inX8 fX8_259 rfl (D (55, .getfield 259, 3) (mg 29 rfl)) rfl ?_
              refine X_cS (As := [.int (nI (c9)), .int (hp6 (m) 15)]) (st := []) C (post := _) (ct_X8_beside hw (j := c9) (by omega) (hp6 (m) 15) hp6 gp6) kX8_110 (by decide) (by decide) rfl rfl (Nat.le_of_ble_eq_true rfl) (D (58, .invokestatic 110, 3) (mg 30 rfl)) rfl (fun v19 H17 G18 hv19 => ?_)
              obtain ⟨rfl, rfl, rfl⟩ := hv19
              obtain ⟨y20, ey20⟩ : ∃ y, y = bsA (c9) (hp6 (m) 15) := ⟨_, rfl⟩
              have hy20 := bsA_alt (j := c9) (by omega) (hp6 (m) 15)
              rw [← ey20] at hy20
              rw [← ey20]
              show X k w _ 61 [some (.ref (wA w (m))), some (.int (nI (j)))] [.int (y20)] hp6 gp6
              refine X_iconst (v := (-1 : Int32)) C (D (61, .iconst (-1), 1) (mg 31 rfl)) (by decide) ?_
              refine X_icmp_ne (tgt := 67) C (D (62, .if_icmp .ne 5, 3) (mg 32 rfl)) (by decide) (fun q21 => ?_) (fun q21 => ?_)
              · skip
                obtain ⟨c22, hc22, rfl⟩ := hy20.resolve_left q21
                refine X_aload_n C 0 (D (67, .aload_n 0, 1) (mg 35 rfl)) rfl rfl ?_
                refine X_get (v := .ref (wA w (m + 10))) C (m) 16 (by omega) hsm rfl rfl (by decide) inX8 fX8_42 rfl (D (68, .getfield 42, 3) (mg 36 rfl)) rfl ?_
                refine X_aload_n C 0 (D (71, .aload_n 0, 1) (mg 37 rfl)) rfl rfl ?_
                refine X_get (v := .int (hp6 (m) 15)) C (m) 15 (by omega) hsm rfl rfl (by decide) inX8 fX8_259 rfl (D (72, .getfield 259, 3) (mg 38 rfl)) rfl ?_
                refine X_cS (As := [.ref (wA w (m + 10)), .int (hp6 (m) 15)]) (st := []) C (post := _) (ct_X8_goStep hw (⟨by omega, hs10, by omega, by omega⟩ : rw56 w (m + 10) 94) (j := c9) (c := c22) (by omega) (by omega) (hp6 (m) 15) hp6 gp6 (ec9) ey20.symm) kX8_134 (by decide) (by decide) rfl rfl (Nat.le_of_ble_eq_true rfl) (D (75, .invokestatic 134, 3) (mg 39 rfl)) rfl (fun v25 H23 G24 hv25 => ?_)
                obtain ⟨rfl, rfl, rfl⟩ := hv25
                show X k w _ 78 [some (.ref (wA w (m))), some (.int (nI (j)))] [] (stH hp6 (m + 10) (c22)) gp6
                refine X_aload_n C 0 (D (78, .aload_n 0, 1) (mg 40 rfl)) rfl rfl ?_
                refine X_cV (As := []) (st := []) C (post := _) (m) (by omega) hsm rfl (ct_X8_goBehind hw hM (n := n) (a := a7) (l0 := l8) (by omega) (by omega) (stH hp6 (m + 10) (c22)) gp6 (((stH_ne _ _ _ (by omega))).trans (((hc6_1).1 _ _ (by omega) (by omega) (by omega)).trans hb)) (((stH_ne _ _ _ (by omega))).trans ea7) (((stH_ne _ _ _ (by omega))).trans el8)) kX8_271 (by decide) (by decide) rfl rfl (Nat.le_of_ble_eq_true rfl) (D (79, .invokevirtual 271, 3) (mg 41 rfl)) rfl (fun v28 H26 G27 hv28 => ?_)
                obtain ⟨rfl, f29, a30, l31, hga30, hsa30, ea30, el31, hda30⟩ := hv28
                show X k w _ 82 [some (.ref (wA w (m))), some (.int (nI (j)))] [] H26 G27
                refine X_iinc (v := nI (j + 1)) (ls' := [some (.ref (wA w (m))), some (.int (nI (j + 1)))]) C (D (82, .iinc 1 1, 3) (mg 42 rfl)) rfl (nI_add (j) 1) rfl ?_
                refine X_goto (tgt := 6) C (D (85, .goto (-79), 3) (mg 43 rfl)) (by decide) ?_
                refine X_eq (ls' := [some (.ref (wA w (m))), some (.int (nI (j + 1)))]) (st' := []) (h' := H26) (g' := G27) rfl rfl rfl rfl ?_
                exact ih6 (j + 1) (H26) (G27) (by omega) ⟨fun q i z1 z2 z3 => by rw [f29 _ _ (by omega), stH_ne _ _ _ (by omega)]; exact (hc6_1).1 q i z1 z2 z3, ⟨a30, l31, by omega, by omega, (ea30), (el31), hda30⟩, ⟨((((f29 _ _ (by omega))).trans (stH_ne _ _ _ (by omega))).trans z0a7), ((((f29 _ _ (by omega))).trans (stH_ne _ _ _ (by omega))).trans z1a7), ((((f29 _ _ (by omega))).trans (stH_ne _ _ _ (by omega))).trans z2a7), c22, by omega, (((f29 _ _ (by omega))).trans (st_28 _ _ _ (by omega)))⟩⟩ (by omega)
              · skip
                subst q21
                refine X_iconst (v := nI (0)) C (D (65, .iconst 0, 1) (mg 33 rfl)) (by decide) ?_
                exact X_zret C (D (66, .ireturn, 1) (mg 34 rfl)) rfl ⟨_, rfl, Or.inl rfl, hc6_1⟩
      · skip
        have q10 : (j) ≠ (0) := by have z : ¬ ((j) = (0)) := fun u => q10 ((nI_eq (a := (j)) (b := (0)) (by omega) (by omega)).mpr u); omega
        refine X_aload_n C 0 (D (10, .aload_n 0, 1) (mg 6 rfl)) rfl rfl ?_
        refine X_get (v := .int (hp6 (m) 14)) C (m) 14 (by omega) hsm rfl rfl (by decide) inX8 fX8_256 rfl (D (11, .getfield 256, 3) (mg 7 rfl)) rfl ?_
        refine X_iconst (v := nI (3)) C (D (14, .iconst 3, 1) (mg 8 rfl)) (by decide) ?_
        refine X_icmp_eq (tgt := 88) C (D (15, .if_icmp .eq 73, 3) (mg 9 rfl)) (by decide) (fun q32 => ?_) (fun q32 => ?_)
        · skip
          refine X_iconst (v := nI (1)) C (D (88, .iconst 1, 1) (mg 44 rfl)) (by decide) ?_
          exact X_zret C (D (89, .ireturn, 1) (mg 45 rfl)) rfl ⟨_, rfl, Or.inr rfl, hc6_1⟩
        · skip
          refine X_iload_n C 1 (D (18, .iload_n 1, 1) (mg 10 rfl)) rfl rfl ?_
          refine X_bipush (v := nI (9)) C (D (19, .bipush 9, 2) (mg 11 rfl)) (by decide) ?_
          refine X_icmp_eq (tgt := 65) C (D (21, .if_icmp .eq 44, 3) (mg 12 rfl)) (by decide) (fun q33 => ?_) (fun q33 => ?_)
          · skip
            have q33 : (j) = (9) := by have z := (nI_eq (a := (j)) (b := (9)) (by omega) (by omega)).mp q33; omega
            refine X_iconst (v := nI (0)) C (D (65, .iconst 0, 1) (mg 33 rfl)) (by decide) ?_
            exact X_zret C (D (66, .ireturn, 1) (mg 34 rfl)) rfl ⟨_, rfl, Or.inl rfl, hc6_1⟩
          · skip
            have q33 : (j) ≠ (9) := by have z : ¬ ((j) = (9)) := fun u => q33 ((nI_eq (a := (j)) (b := (9)) (by omega) (by omega)).mpr u); omega
            refine X_aload_n C 0 (D (24, .aload_n 0, 1) (mg 13 rfl)) rfl rfl ?_
            refine X_get (v := .int (hp6 (m) 14)) C (m) 14 (by omega) hsm rfl rfl (by decide) inX8 fX8_256 rfl (D (25, .getfield 256, 3) (mg 14 rfl)) rfl ?_
            refine X_iconst (v := nI (2)) C (D (28, .iconst 2, 1) (mg 15 rfl)) (by decide) ?_
            refine X_icmp_ne (tgt := 65) C (D (29, .if_icmp .ne 36, 3) (mg 16 rfl)) (by decide) (fun q34 => ?_) (fun q34 => ?_)
            · skip
              refine X_iconst (v := nI (0)) C (D (65, .iconst 0, 1) (mg 33 rfl)) (by decide) ?_
              exact X_zret C (D (66, .ireturn, 1) (mg 34 rfl)) rfl ⟨_, rfl, Or.inl rfl, hc6_1⟩
            · skip
              refine X_aload_n C 0 (D (32, .aload_n 0, 1) (mg 17 rfl)) rfl rfl ?_
              refine X_get (v := .int (hp6 (m) 15)) C (m) 15 (by omega) hsm rfl rfl (by decide) inX8 fX8_259 rfl (D (33, .getfield 259, 3) (mg 18 rfl)) rfl ?_
              refine X_i2l C (D (36, .i2l, 1) (mg 19 rfl)) ?_
              refine X_lconst (v := lN 0) C (D (37, .lconst 0, 1) (mg 20 rfl)) (by decide) ?_
              refine X_ldc2 C (D (38, .ldc2_w 132, 3) (mg 21 rfl)) vX8_132 ?_
              refine X_tl (y := lN (3)) rfl ?_
              refine X_cS (As := [.long ((hp6 (m) 15).toInt64), .long (lN (0)), .long (lN (3))]) (st := []) C (post := _) (ct_X8_in hw ((hp6 (m) 15).toInt64) (lN (0)) (lN (3)) hp6 gp6) kX8_54 (by decide) (by decide) rfl rfl (Nat.le_of_ble_eq_true rfl) (D (41, .invokestatic 54, 3) (mg 22 rfl)) rfl (fun v37 H35 G36 hv37 => ?_)
              obtain ⟨rfl, rfl, rfl⟩ := hv37
              show X k w _ 44 [some (.ref (wA w (m))), some (.int (nI (j)))] [.int (if (lN (0)).toInt ≤ ((hp6 (m) 15).toInt64).toInt ∧ ((hp6 (m) 15).toInt64).toInt ≤ (lN (3)).toInt then 1 else 0)] hp6 gp6
              refine X_if_eq (tgt := 65) C (D (44, .ifCond .eq 21, 3) (mg 23 rfl)) (by decide) (fun q38 => ?_) (fun q38 => ?_)
              · skip
                have q38 : ¬ ((lN (0)).toInt ≤ ((hp6 (m) 15).toInt64).toInt ∧ ((hp6 (m) 15).toInt64).toInt ≤ (lN (3)).toInt) := bz0.mp q38
                simp only [i6, pk_lT (n := 0) (by omega), pk_lT (n := 3) (by omega)] at q38
                refine X_iconst (v := nI (0)) C (D (65, .iconst 0, 1) (mg 33 rfl)) (by decide) ?_
                exact X_zret C (D (66, .ireturn, 1) (mg 34 rfl)) rfl ⟨_, rfl, Or.inl rfl, hc6_1⟩
              · skip
                have q38 : ((lN (0)).toInt ≤ ((hp6 (m) 15).toInt64).toInt ∧ ((hp6 (m) 15).toInt64).toInt ≤ (lN (3)).toInt) := bz1.mp q38
                simp only [i6, pk_lT (n := 0) (by omega), pk_lT (n := 3) (by omega)] at q38
                refine X_aload_n C 0 (D (47, .aload_n 0, 1) (mg 24 rfl)) rfl rfl ?_
                refine X_get (v := .ref (wA w (m + 10))) C (m) 16 (by omega) hsm rfl rfl (by decide) inX8 fX8_42 rfl (D (48, .getfield 42, 3) (mg 25 rfl)) rfl ?_
                refine X_bipush (v := nI (28)) C (D (51, .bipush 28, 2) (mg 26 rfl)) (by decide) ?_
                refine X_iald (v := hp6 (m + 10) (28)) C (m + 10) (by omega) hs10 (vp_in_nI (by omega) (by omega)) (D (53, .iaload, 1) (mg 27 rfl)) (by rw [nI_clamp (by omega)]) ?_
                refine X_ti (y := nI (c9)) (ec9) ?_
                refine X_aload_n C 0 (D (54, .aload_n 0, 1) (mg 28 rfl)) rfl rfl ?_
                refine X_get (v := .int (hp6 (m) 15)) C (m) 15 (by omega) hsm rfl rfl (by decide) inX8 fX8_259 rfl (D (55, .getfield 259, 3) (mg 29 rfl)) rfl ?_
                refine X_cS (As := [.int (nI (c9)), .int (hp6 (m) 15)]) (st := []) C (post := _) (ct_X8_beside hw (j := c9) (by omega) (hp6 (m) 15) hp6 gp6) kX8_110 (by decide) (by decide) rfl rfl (Nat.le_of_ble_eq_true rfl) (D (58, .invokestatic 110, 3) (mg 30 rfl)) rfl (fun v41 H39 G40 hv41 => ?_)
                obtain ⟨rfl, rfl, rfl⟩ := hv41
                obtain ⟨y42, ey42⟩ : ∃ y, y = bsA (c9) (hp6 (m) 15) := ⟨_, rfl⟩
                have hy42 := bsA_alt (j := c9) (by omega) (hp6 (m) 15)
                rw [← ey42] at hy42
                rw [← ey42]
                show X k w _ 61 [some (.ref (wA w (m))), some (.int (nI (j)))] [.int (y42)] hp6 gp6
                refine X_iconst (v := (-1 : Int32)) C (D (61, .iconst (-1), 1) (mg 31 rfl)) (by decide) ?_
                refine X_icmp_ne (tgt := 67) C (D (62, .if_icmp .ne 5, 3) (mg 32 rfl)) (by decide) (fun q43 => ?_) (fun q43 => ?_)
                · skip
                  obtain ⟨c44, hc44, rfl⟩ := hy42.resolve_left q43
                  refine X_aload_n C 0 (D (67, .aload_n 0, 1) (mg 35 rfl)) rfl rfl ?_
                  refine X_get (v := .ref (wA w (m + 10))) C (m) 16 (by omega) hsm rfl rfl (by decide) inX8 fX8_42 rfl (D (68, .getfield 42, 3) (mg 36 rfl)) rfl ?_
                  refine X_aload_n C 0 (D (71, .aload_n 0, 1) (mg 37 rfl)) rfl rfl ?_
                  refine X_get (v := .int (hp6 (m) 15)) C (m) 15 (by omega) hsm rfl rfl (by decide) inX8 fX8_259 rfl (D (72, .getfield 259, 3) (mg 38 rfl)) rfl ?_
                  refine X_cS (As := [.ref (wA w (m + 10)), .int (hp6 (m) 15)]) (st := []) C (post := _) (ct_X8_goStep hw (⟨by omega, hs10, by omega, by omega⟩ : rw56 w (m + 10) 94) (j := c9) (c := c44) (by omega) (by omega) (hp6 (m) 15) hp6 gp6 (ec9) ey42.symm) kX8_134 (by decide) (by decide) rfl rfl (Nat.le_of_ble_eq_true rfl) (D (75, .invokestatic 134, 3) (mg 39 rfl)) rfl (fun v47 H45 G46 hv47 => ?_)
                  obtain ⟨rfl, rfl, rfl⟩ := hv47
                  show X k w _ 78 [some (.ref (wA w (m))), some (.int (nI (j)))] [] (stH hp6 (m + 10) (c44)) gp6
                  refine X_aload_n C 0 (D (78, .aload_n 0, 1) (mg 40 rfl)) rfl rfl ?_
                  refine X_cV (As := []) (st := []) C (post := _) (m) (by omega) hsm rfl (ct_X8_goBehind hw hM (n := n) (a := a7) (l0 := l8) (by omega) (by omega) (stH hp6 (m + 10) (c44)) gp6 (((stH_ne _ _ _ (by omega))).trans (((hc6_1).1 _ _ (by omega) (by omega) (by omega)).trans hb)) (((stH_ne _ _ _ (by omega))).trans ea7) (((stH_ne _ _ _ (by omega))).trans el8)) kX8_271 (by decide) (by decide) rfl rfl (Nat.le_of_ble_eq_true rfl) (D (79, .invokevirtual 271, 3) (mg 41 rfl)) rfl (fun v50 H48 G49 hv50 => ?_)
                  obtain ⟨rfl, f51, a52, l53, hga52, hsa52, ea52, el53, hda52⟩ := hv50
                  show X k w _ 82 [some (.ref (wA w (m))), some (.int (nI (j)))] [] H48 G49
                  refine X_iinc (v := nI (j + 1)) (ls' := [some (.ref (wA w (m))), some (.int (nI (j + 1)))]) C (D (82, .iinc 1 1, 3) (mg 42 rfl)) rfl (nI_add (j) 1) rfl ?_
                  refine X_goto (tgt := 6) C (D (85, .goto (-79), 3) (mg 43 rfl)) (by decide) ?_
                  refine X_eq (ls' := [some (.ref (wA w (m))), some (.int (nI (j + 1)))]) (st' := []) (h' := H48) (g' := G49) rfl rfl rfl rfl ?_
                  exact ih6 (j + 1) (H48) (G49) (by omega) ⟨fun q i z1 z2 z3 => by rw [f51 _ _ (by omega), stH_ne _ _ _ (by omega)]; exact (hc6_1).1 q i z1 z2 z3, ⟨a52, l53, by omega, by omega, (ea52), (el53), hda52⟩, ⟨((((f51 _ _ (by omega))).trans (stH_ne _ _ _ (by omega))).trans z0a7), ((((f51 _ _ (by omega))).trans (stH_ne _ _ _ (by omega))).trans z1a7), ((((f51 _ _ (by omega))).trans (stH_ne _ _ _ (by omega))).trans z2a7), c44, by omega, (((f51 _ _ (by omega))).trans (st_28 _ _ _ (by omega)))⟩⟩ (by omega)
                · skip
                  subst q43
                  refine X_iconst (v := nI (0)) C (D (65, .iconst 0, 1) (mg 33 rfl)) (by decide) ?_
                  exact X_zret C (D (66, .ireturn, 1) (mg 34 rfl)) rfl ⟨_, rfl, Or.inl rfl, hc6_1⟩
  refine X_eq (ls' := [some (.ref (wA w (m))), some (.int (nI (0)))]) (st' := []) (h' := H1) (g' := G2) rfl rfl rfl rfl ?_
  exact lp6 _ (0) (H1) (G2) (by omega) ⟨fun q i z1 z2 z3 => by rw [f4 _ _ (by omega)], ⟨a5, l6, by omega, by omega, (ea5), (el6), hda5⟩, ⟨(((f4 _ _ (by omega))).trans ao0), (((f4 _ _ (by omega))).trans ao1), (((f4 _ _ (by omega))).trans ao2), c0, by omega, (((f4 _ _ (by omega))).trans ao28)⟩⟩ (Nat.le_refl _)
set_option maxHeartbeats 4000000 in
set_option maxRecDepth 100000 in
theorem ct_X8_takesWeeks {l : Launch} {w : Kw} (hw : wOk w) {m : Nat} (hM : shM w m) {n a l0 : Nat} (hn : n ≤ 150) (hal : a + l0 ≤ n) (h : xI) (g : xJ) (hb : h m 11 = nI n) (ea : h m 12 = nI a) (el : h m 13 = nI l0) (hd : h m 14 = 0 ∨ 1 ≤ l0) (hao : aOk h m) : Ct l w yX8_takesWeeks cX8_takesWeeks 1 (some .boolean) 5 112 [.ref (wA w (m))] h g (pB (fun _ h' => pW m n a h h')) := by
  refine Ct_of (ls := [some (.ref (wA w (m)))]) (by decide) hw (Nat.le_of_ble_eq_true rfl) rfl (fun k hkl C => ?_)
  have C : Cx k w cX8_takesWeeks RX8 1 (some .boolean) 5 112 := C
  have D := dtX8_takesWeeks
  subst hkl
  have hM0 := hM
  obtain ⟨hm, hsm, hs1, hs2, hs3, hs4, hs5, hs6, hs7, hs8, hs9, hs10, hs11⟩ := hM
  have hM := hM0
  obtain ⟨ao0, ao1, ao2, c0, hc0, ao28⟩ := hao
  refine X_aload_n C 0 (D (0, .aload_n 0, 1) (mg 0 rfl)) rfl rfl ?_
  refine X_cV (As := []) (st := []) C (post := _) (m) (by omega) hsm rfl (ct_X8_goBehind hw hM (n := n) (a := a) (l0 := l0) (by omega) (by omega) h g (hb) (ea) (el)) kX8_271 (by decide) (by decide) rfl rfl (Nat.le_of_ble_eq_true rfl) (D (1, .invokevirtual 271, 3) (mg 1 rfl)) rfl (fun v3 H1 G2 hv3 => ?_)
  obtain ⟨rfl, f4, a5, l6, hga5, hsa5, ea5, el6, hda5⟩ := hv3
  show X k w _ 4 [some (.ref (wA w (m)))] [] H1 G2
  refine X_aload_n C 0 (D (4, .aload_n 0, 1) (mg 2 rfl)) rfl rfl ?_
  refine X_iconst (v := nI (0)) C (D (5, .iconst 0, 1) (mg 3 rfl)) (by decide) ?_
  refine X_iconst (v := nI (1)) C (D (6, .iconst 1, 1) (mg 4 rfl)) (by decide) ?_
  refine X_bipush (v := nI (99)) C (D (7, .bipush 99, 2) (mg 5 rfl)) (by decide) ?_
  refine X_cV (As := [.int (nI (0)), .int (nI (1)), .int (nI (99))]) (st := []) C (post := _) (m) (by omega) hsm rfl (ct_X8_takes hw hM (n := n) (a := a5) (l0 := l6) (by omega) (by omega) (K := 0) (A := 1) (B := 99) (by decide) (by decide) H1 G2 (((f4 _ _ (by omega))).trans hb) (ea5) (el6) hda5) kX8_274 (by decide) (by decide) rfl rfl (Nat.le_of_ble_eq_true rfl) (D (9, .invokevirtual 274, 3) (mg 6 rfl)) rfl (fun v9 H7 G8 hv9 => ?_)
  obtain ⟨y10, rfl, h01y10, f11, ⟨a12, l13, hga12, hsa12, ea12, el13, hda12⟩, hqy10⟩ := hv9
  show X k w _ 12 [some (.ref (wA w (m)))] [.int (y10)] H7 G8
  refine X_if_ne (tgt := 17) C (D (12, .ifCond .ne 5, 3) (mg 7 rfl)) (by decide) (fun q14 => ?_) (fun q14 => ?_)
  · skip
    obtain ⟨v15, hlv15, huv15, ev15⟩ := hqy10 q14
    refine X_aload_n C 0 (D (17, .aload_n 0, 1) (mg 10 rfl)) rfl rfl ?_
    refine X_get (v := .ref (wA w (m + 10))) C (m) 16 (by omega) hsm rfl rfl (by decide) inX8 fX8_42 rfl (D (18, .getfield 42, 3) (mg 11 rfl)) rfl ?_
    refine X_aload_n C 0 (D (21, .aload_n 0, 1) (mg 12 rfl)) rfl rfl ?_
    refine X_get (v := .ref (wA w (m + 11))) C (m) 17 (by omega) hsm rfl rfl (by decide) inX8 fX8_45 rfl (D (22, .getfield 45, 3) (mg 13 rfl)) rfl ?_
    refine X_iconst (v := nI (0)) C (D (25, .iconst 0, 1) (mg 14 rfl)) (by decide) ?_
    refine X_iald (v := H7 (m + 11) (0)) C (m + 11) (by omega) hs11 (vp_in_nI (by omega) (by omega)) (D (26, .iaload, 1) (mg 15 rfl)) (by rw [nI_clamp (by omega)]) ?_
    refine X_ti (y := nI (v15)) (ev15) ?_
    refine X_cS (As := [.ref (wA w (m + 10)), .int (nI (v15))]) (st := []) C (post := _) (ct_X8_goWeeks hw (⟨by omega, hs10, by omega, by omega⟩ : rw56 w (m + 10) 94) (by omega) H7 G8) kX8_140 (by decide) (by decide) rfl rfl (Nat.le_of_ble_eq_true rfl) (D (27, .invokestatic 140, 3) (mg 16 rfl)) rfl (fun v18 H16 G17 hv18 => ?_)
    obtain ⟨rfl, rfl, rfl⟩ := hv18
    show X k w _ 30 [some (.ref (wA w (m)))] [] (wks (m + 10) (v15) H7) G8
    refine X_iconst (v := nI (1)) C (D (30, .iconst 1, 1) (mg 17 rfl)) (by decide) ?_
    exact X_zret C (D (31, .ireturn, 1) (mg 18 rfl)) rfl ⟨_, rfl, Or.inr rfl, ⟨fun q i z1 z2 z3 => by rw [wks_ne _ (by omega), f11 _ _ (by omega) (by omega), f4 _ _ (by omega)], ⟨a12, l13, by omega, by omega, (((wks_ne _ (by omega) _ _)).trans ea12), (((wks_ne _ (by omega) _ _)).trans el13), (by rw [wks_ne _ (by omega)]; exact hda12)⟩, ⟨(((((wks_ne _ (by omega) _ _)).trans (f11 _ _ (by omega) (by omega))).trans (f4 _ _ (by omega))).trans ao0), (((((wks_ne _ (by omega) _ _)).trans (f11 _ _ (by omega) (by omega))).trans (f4 _ _ (by omega))).trans ao1), (((((wks_ne _ (by omega) _ _)).trans (f11 _ _ (by omega) (by omega))).trans (f4 _ _ (by omega))).trans ao2), c0, by omega, (((((wks_ne _ (by omega) _ _)).trans (f11 _ _ (by omega) (by omega))).trans (f4 _ _ (by omega))).trans ao28)⟩⟩⟩
  · skip
    refine X_iconst (v := nI (0)) C (D (15, .iconst 0, 1) (mg 8 rfl)) (by decide) ?_
    exact X_zret C (D (16, .ireturn, 1) (mg 9 rfl)) rfl ⟨_, rfl, Or.inl rfl, ⟨fun q i z1 z2 z3 => by rw [f11 _ _ (by omega) (by omega), f4 _ _ (by omega)], ⟨a12, l13, by omega, by omega, (ea12), (el13), hda12⟩, ⟨((((f11 _ _ (by omega) (by omega))).trans (f4 _ _ (by omega))).trans ao0), ((((f11 _ _ (by omega) (by omega))).trans (f4 _ _ (by omega))).trans ao1), ((((f11 _ _ (by omega) (by omega))).trans (f4 _ _ (by omega))).trans ao2), c0, by omega, ((((f11 _ _ (by omega) (by omega))).trans (f4 _ _ (by omega))).trans ao28)⟩⟩⟩
set_option maxHeartbeats 4000000 in
set_option maxRecDepth 100000 in
theorem ct_X8_takesItem {l : Launch} {w : Kw} (hw : wOk w) {m : Nat} (hM : shM w m) {n a l0 : Nat} (hn : n ≤ 150) (hal : a + l0 ≤ n) (h : xI) (g : xJ) (hb : h m 11 = nI n) (ea : h m 12 = nI a) (el : h m 13 = nI l0) (hd : h m 14 = 0 ∨ 1 ≤ l0) (hao : aOk h m) : Ct l w yX8_takesItem cX8_takesItem 1 (some .boolean) 6 132 [.ref (wA w (m))] h g (pB (fun _ h' => pW m n a h h')) := by
  refine Ct_of (ls := [some (.ref (wA w (m)))]) (by decide) hw (Nat.le_of_ble_eq_true rfl) rfl (fun k hkl C => ?_)
  have C : Cx k w cX8_takesItem RX8 1 (some .boolean) 6 132 := C
  have D := dtX8_takesItem
  subst hkl
  have hM0 := hM
  obtain ⟨hm, hsm, hs1, hs2, hs3, hs4, hs5, hs6, hs7, hs8, hs9, hs10, hs11⟩ := hM
  have hM := hM0
  obtain ⟨ao0, ao1, ao2, c0, hc0, ao28⟩ := hao
  refine X_aload_n C 0 (D (0, .aload_n 0, 1) (mg 0 rfl)) rfl rfl ?_
  refine X_iconst (v := nI (5)) C (D (1, .iconst 5, 1) (mg 1 rfl)) (by decide) ?_
  refine X_bipush (v := nI (115)) C (D (2, .bipush 115, 2) (mg 2 rfl)) (by decide) ?_
  refine X_bipush (v := nI (116)) C (D (4, .bipush 116, 2) (mg 3 rfl)) (by decide) ?_
  refine X_bipush (v := nI (111)) C (D (6, .bipush 111, 2) (mg 4 rfl)) (by decide) ?_
  refine X_bipush (v := nI (110)) C (D (8, .bipush 110, 2) (mg 5 rfl)) (by decide) ?_
  refine X_bipush (v := nI (121)) C (D (10, .bipush 121, 2) (mg 6 rfl)) (by decide) ?_
  refine X_iconst (v := nI (0)) C (D (12, .iconst 0, 1) (mg 7 rfl)) (by decide) ?_
  refine X_cV (As := [.int (nI (5)), .int (nI (115)), .int (nI (116)), .int (nI (111)), .int (nI (110)), .int (nI (121)), .int (nI (0))]) (st := []) C (post := _) (m) (by omega) hsm rfl (ct_X8_spells hw hM (n := n) (a := a) (l0 := l0) (by omega) (by omega) (z0 := 5) (by omega) (nI (115)) (nI (116)) (nI (111)) (nI (110)) (nI (121)) (nI (0)) h g (hb) (ea) (el)) kX8_277 (by decide) (by decide) rfl rfl (Nat.le_of_ble_eq_true rfl) (D (13, .invokevirtual 277, 3) (mg 8 rfl)) rfl (fun v3 H1 G2 hv3 => ?_)
  obtain ⟨⟨y4, rfl, hy4⟩, rfl, rfl⟩ := hv3
  show X k w _ 16 [some (.ref (wA w (m)))] [.int (y4)] h g
  refine X_if_eq (tgt := 24) C (D (16, .ifCond .eq 8, 3) (mg 9 rfl)) (by decide) (fun q5 => ?_) (fun q5 => ?_)
  · skip
    refine X_aload_n C 0 (D (24, .aload_n 0, 1) (mg 13 rfl)) rfl rfl ?_
    refine X_iconst (v := nI (3)) C (D (25, .iconst 3, 1) (mg 14 rfl)) (by decide) ?_
    refine X_bipush (v := nI (115)) C (D (26, .bipush 115, 2) (mg 15 rfl)) (by decide) ?_
    refine X_bipush (v := nI (97)) C (D (28, .bipush 97, 2) (mg 16 rfl)) (by decide) ?_
    refine X_bipush (v := nI (121)) C (D (30, .bipush 121, 2) (mg 17 rfl)) (by decide) ?_
    refine X_iconst (v := nI (0)) C (D (32, .iconst 0, 1) (mg 18 rfl)) (by decide) ?_
    refine X_iconst (v := nI (0)) C (D (33, .iconst 0, 1) (mg 19 rfl)) (by decide) ?_
    refine X_iconst (v := nI (0)) C (D (34, .iconst 0, 1) (mg 20 rfl)) (by decide) ?_
    refine X_cV (As := [.int (nI (3)), .int (nI (115)), .int (nI (97)), .int (nI (121)), .int (nI (0)), .int (nI (0)), .int (nI (0))]) (st := []) C (post := _) (m) (by omega) hsm rfl (ct_X8_spells hw hM (n := n) (a := a) (l0 := l0) (by omega) (by omega) (z0 := 3) (by omega) (nI (115)) (nI (97)) (nI (121)) (nI (0)) (nI (0)) (nI (0)) h g (hb) (ea) (el)) kX8_277 (by decide) (by decide) rfl rfl (Nat.le_of_ble_eq_true rfl) (D (35, .invokevirtual 277, 3) (mg 21 rfl)) rfl (fun v8 H6 G7 hv8 => ?_)
    obtain ⟨⟨y9, rfl, hy9⟩, rfl, rfl⟩ := hv8
    show X k w _ 38 [some (.ref (wA w (m)))] [.int (y9)] h g
    refine X_if_eq (tgt := 46) C (D (38, .ifCond .eq 8, 3) (mg 22 rfl)) (by decide) (fun q10 => ?_) (fun q10 => ?_)
    · skip
      refine X_aload_n C 0 (D (46, .aload_n 0, 1) (mg 26 rfl)) rfl rfl ?_
      refine X_iconst (v := nI (4)) C (D (47, .iconst 4, 1) (mg 27 rfl)) (by decide) ?_
      refine X_bipush (v := nI (100)) C (D (48, .bipush 100, 2) (mg 28 rfl)) (by decide) ?_
      refine X_bipush (v := nI (114)) C (D (50, .bipush 114, 2) (mg 29 rfl)) (by decide) ?_
      refine X_bipush (v := nI (97)) C (D (52, .bipush 97, 2) (mg 30 rfl)) (by decide) ?_
      refine X_bipush (v := nI (103)) C (D (54, .bipush 103, 2) (mg 31 rfl)) (by decide) ?_
      refine X_iconst (v := nI (0)) C (D (56, .iconst 0, 1) (mg 32 rfl)) (by decide) ?_
      refine X_iconst (v := nI (0)) C (D (57, .iconst 0, 1) (mg 33 rfl)) (by decide) ?_
      refine X_cV (As := [.int (nI (4)), .int (nI (100)), .int (nI (114)), .int (nI (97)), .int (nI (103)), .int (nI (0)), .int (nI (0))]) (st := []) C (post := _) (m) (by omega) hsm rfl (ct_X8_spells hw hM (n := n) (a := a) (l0 := l0) (by omega) (by omega) (z0 := 4) (by omega) (nI (100)) (nI (114)) (nI (97)) (nI (103)) (nI (0)) (nI (0)) h g (hb) (ea) (el)) kX8_277 (by decide) (by decide) rfl rfl (Nat.le_of_ble_eq_true rfl) (D (58, .invokevirtual 277, 3) (mg 34 rfl)) rfl (fun v13 H11 G12 hv13 => ?_)
      obtain ⟨⟨y14, rfl, hy14⟩, rfl, rfl⟩ := hv13
      show X k w _ 61 [some (.ref (wA w (m)))] [.int (y14)] h g
      refine X_if_eq (tgt := 69) C (D (61, .ifCond .eq 8, 3) (mg 35 rfl)) (by decide) (fun q15 => ?_) (fun q15 => ?_)
      · skip
        refine X_aload_n C 0 (D (69, .aload_n 0, 1) (mg 39 rfl)) rfl rfl ?_
        refine X_iconst (v := nI (5)) C (D (70, .iconst 5, 1) (mg 40 rfl)) (by decide) ?_
        refine X_bipush (v := nI (119)) C (D (71, .bipush 119, 2) (mg 41 rfl)) (by decide) ?_
        refine X_bipush (v := nI (101)) C (D (73, .bipush 101, 2) (mg 42 rfl)) (by decide) ?_
        refine X_bipush (v := nI (101)) C (D (75, .bipush 101, 2) (mg 43 rfl)) (by decide) ?_
        refine X_bipush (v := nI (107)) C (D (77, .bipush 107, 2) (mg 44 rfl)) (by decide) ?_
        refine X_bipush (v := nI (115)) C (D (79, .bipush 115, 2) (mg 45 rfl)) (by decide) ?_
        refine X_iconst (v := nI (0)) C (D (81, .iconst 0, 1) (mg 46 rfl)) (by decide) ?_
        refine X_cV (As := [.int (nI (5)), .int (nI (119)), .int (nI (101)), .int (nI (101)), .int (nI (107)), .int (nI (115)), .int (nI (0))]) (st := []) C (post := _) (m) (by omega) hsm rfl (ct_X8_spells hw hM (n := n) (a := a) (l0 := l0) (by omega) (by omega) (z0 := 5) (by omega) (nI (119)) (nI (101)) (nI (101)) (nI (107)) (nI (115)) (nI (0)) h g (hb) (ea) (el)) kX8_277 (by decide) (by decide) rfl rfl (Nat.le_of_ble_eq_true rfl) (D (82, .invokevirtual 277, 3) (mg 47 rfl)) rfl (fun v18 H16 G17 hv18 => ?_)
        obtain ⟨⟨y19, rfl, hy19⟩, rfl, rfl⟩ := hv18
        show X k w _ 85 [some (.ref (wA w (m)))] [.int (y19)] h g
        refine X_if_eq (tgt := 99) C (D (85, .ifCond .eq 14, 3) (mg 48 rfl)) (by decide) (fun q20 => ?_) (fun q20 => ?_)
        · skip
          refine X_iconst (v := nI (0)) C (D (99, .iconst 0, 1) (mg 54 rfl)) (by decide) ?_
          exact X_zret C (D (100, .ireturn, 1) (mg 55 rfl)) rfl ⟨_, rfl, Or.inl rfl, ⟨fun q i z1 z2 z3 => by rfl, ⟨a, l0, by omega, by omega, (ea), (el), hd⟩, ⟨(ao0), (ao1), (ao2), c0, by omega, (ao28)⟩⟩⟩
        · skip
          refine X_aload_n C 0 (D (88, .aload_n 0, 1) (mg 49 rfl)) rfl rfl ?_
          refine X_cV (As := []) (st := []) C (post := _) (m) (by omega) hsm rfl (ct_X8_takesWeeks hw hM (n := n) (a := a) (l0 := l0) (by omega) (by omega) h g (hb) (ea) (el) hd ⟨(ao0), (ao1), (ao2), c0, by omega, (ao28)⟩) kX8_291 (by decide) (by decide) rfl rfl (Nat.le_of_ble_eq_true rfl) (D (89, .invokevirtual 291, 3) (mg 50 rfl)) rfl (fun v23 H21 G22 hv23 => ?_)
          obtain ⟨y24, rfl, h01y24, w25⟩ := hv23
          obtain ⟨⟨a26, l27, hga26, hsa26, ea26, el27, hda26⟩, ⟨z0a26, z1a26, z2a26, c28, hc28, ec28⟩⟩ := (w25).2
          show X k w _ 92 [some (.ref (wA w (m)))] [.int (y24)] H21 G22
          refine X_if_eq (tgt := 99) C (D (92, .ifCond .eq 7, 3) (mg 51 rfl)) (by decide) (fun q29 => ?_) (fun q29 => ?_)
          · skip
            refine X_iconst (v := nI (0)) C (D (99, .iconst 0, 1) (mg 54 rfl)) (by decide) ?_
            exact X_zret C (D (100, .ireturn, 1) (mg 55 rfl)) rfl ⟨_, rfl, Or.inl rfl, w25⟩
          · skip
            refine X_iconst (v := nI (1)) C (D (95, .iconst 1, 1) (mg 52 rfl)) (by decide) ?_
            refine X_goto (tgt := 100) C (D (96, .goto 4, 3) (mg 53 rfl)) (by decide) ?_
            exact X_zret C (D (100, .ireturn, 1) (mg 55 rfl)) rfl ⟨_, rfl, Or.inr rfl, w25⟩
      · skip
        refine X_aload_n C 0 (D (64, .aload_n 0, 1) (mg 36 rfl)) rfl rfl ?_
        refine X_cV (As := []) (st := []) C (post := _) (m) (by omega) hsm rfl (ct_X8_takesDrag hw hM (n := n) (a := a) (l0 := l0) (by omega) (by omega) h g (hb) (ea) (el) hd ⟨(ao0), (ao1), (ao2), c0, by omega, (ao28)⟩) kX8_288 (by decide) (by decide) rfl rfl (Nat.le_of_ble_eq_true rfl) (D (65, .invokevirtual 288, 3) (mg 37 rfl)) rfl (fun v32 H30 G31 hv32 => ?_)
        obtain ⟨y33, rfl, h01y33, w34⟩ := hv32
        obtain ⟨⟨a35, l36, hga35, hsa35, ea35, el36, hda35⟩, ⟨z0a35, z1a35, z2a35, c37, hc37, ec37⟩⟩ := (w34).2
        show X k w _ 68 [some (.ref (wA w (m)))] [.int (y33)] H30 G31
        exact X_zret C (D (68, .ireturn, 1) (mg 38 rfl)) (nb_01 h01y33) ⟨_, rfl, h01y33, w34⟩
    · skip
      refine X_aload_n C 0 (D (41, .aload_n 0, 1) (mg 23 rfl)) rfl rfl ?_
      refine X_cV (As := []) (st := []) C (post := _) (m) (by omega) hsm rfl (ct_X8_takesSaying hw hM (n := n) (a := a) (l0 := l0) (by omega) (by omega) h g (hb) (ea) (el) hd ⟨(ao0), (ao1), (ao2), c0, by omega, (ao28)⟩) kX8_285 (by decide) (by decide) rfl rfl (Nat.le_of_ble_eq_true rfl) (D (42, .invokevirtual 285, 3) (mg 24 rfl)) rfl (fun v40 H38 G39 hv40 => ?_)
      obtain ⟨y41, rfl, h01y41, w42⟩ := hv40
      obtain ⟨⟨a43, l44, hga43, hsa43, ea43, el44, hda43⟩, ⟨z0a43, z1a43, z2a43, c45, hc45, ec45⟩⟩ := (w42).2
      show X k w _ 45 [some (.ref (wA w (m)))] [.int (y41)] H38 G39
      exact X_zret C (D (45, .ireturn, 1) (mg 25 rfl)) (nb_01 h01y41) ⟨_, rfl, h01y41, w42⟩
  · skip
    refine X_aload_n C 0 (D (19, .aload_n 0, 1) (mg 10 rfl)) rfl rfl ?_
    refine X_cV (As := []) (st := []) C (post := _) (m) (by omega) hsm rfl (ct_X8_takesStony hw hM (n := n) (a := a) (l0 := l0) (by omega) (by omega) h g (hb) (ea) (el) hd ⟨(ao0), (ao1), (ao2), c0, by omega, (ao28)⟩) kX8_281 (by decide) (by decide) rfl rfl (Nat.le_of_ble_eq_true rfl) (D (20, .invokevirtual 281, 3) (mg 11 rfl)) rfl (fun v48 H46 G47 hv48 => ?_)
    obtain ⟨y49, rfl, h01y49, w50⟩ := hv48
    obtain ⟨⟨a51, l52, hga51, hsa51, ea51, el52, hda51⟩, ⟨z0a51, z1a51, z2a51, c53, hc53, ec53⟩⟩ := (w50).2
    show X k w _ 23 [some (.ref (wA w (m)))] [.int (y49)] H46 G47
    exact X_zret C (D (23, .ireturn, 1) (mg 12 rfl)) (nb_01 h01y49) ⟨_, rfl, h01y49, w50⟩
