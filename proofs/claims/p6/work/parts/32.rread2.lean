/-! THE REFERENCE, 15: read, weak -/
def fR (m : Nat) (h h' : xI) : Prop := ∀ q i, (q ≠ m ∨ i < 12 ∨ 15 < i) → (q ≠ m + 1 ∨ 94 ≤ i) → q ≠ m + 10 → q ≠ m + 11 → h' q i = h q i
theorem rr_a {m : Nat} {h h' : xI} (hI : mOk h m) (f : fI m h h') : fR m h h' ∧ mOk h' m := by
  obtain ⟨b1, b2, b3, ⟨n, hn, e⟩⟩ := hI
  refine ⟨fun q i z1 z2 z3 z4 => f q i z1 z3 z4, rU_c (fun i hi => f _ _ (by omega) (by omega) (by omega)) b1, rS_c (fun i hi => f _ _ (by omega) (by omega) (by omega)) b2, fun i hi => ⟨rU_c (fun j hj => f _ _ (by omega) (by omega) (by omega)) (b3 i hi).1, rS_c (fun j hj => f _ _ (by omega) (by omega) (by omega)) (b3 i hi).2⟩, ⟨n, hn, ?_⟩⟩
  rw [f _ _ (by omega) (by omega) (by omega)]; exact e
theorem rr_b {m : Nat} {h h' : xI} (hI : mOk h m) (f : fI m h h') (ao : aOk h' m) : fR m h (cpS h' (m + 10) 0 (m + 1) 0 94) ∧ mOk (cpS h' (m + 10) 0 (m + 1) 0 94) m := by
  obtain ⟨⟨c1, c2, c3⟩, d2, d3, ⟨n, hn, e⟩⟩ := (rr_a hI f).2
  obtain ⟨a0, a1, a2, c, hc, a28⟩ := ao
  have fr : ∀ q i, (q ≠ m + 1 ∨ 94 ≤ i) → cpS h' (m + 10) 0 (m + 1) 0 94 q i = h' q i := fun q i z => cpS_ne _ _ _ _ _ _ (by omega)
  have at_ : ∀ i, i < 94 → cpS h' (m + 10) 0 (m + 1) 0 94 (m + 1) i = h' (m + 10) i := fun i hi => by
    rw [cpS_at _ _ _ _ _ _ ⟨rfl, by omega, by omega⟩]; congr 1
  refine ⟨fun q i z1 z2 z3 z4 => (fr q i z2).trans (f q i z1 z3 z4), ⟨⟨0, by omega, ?_⟩, ⟨c, hc, ?_⟩, fun r hr => ?_⟩, ⟨⟨0, by omega, ?_⟩, ⟨0, by omega, ?_⟩⟩, fun i hi => ⟨rU_c (fun j hj => fr _ _ (by omega)) (d3 i hi).1, rS_c (fun j hj => fr _ _ (by omega)) (d3 i hi).2⟩, ⟨n, hn, ?_⟩⟩
  · rw [at_ _ (by omega)]; exact a2
  · rw [at_ _ (by omega)]; exact a28
  · rw [fr _ _ (by omega)]; exact c3 r hr
  · rw [at_ _ (by omega)]; exact a0
  · rw [at_ _ (by omega)]; exact a1
  · rw [fr _ _ (by omega)]; exact e
set_option maxHeartbeats 4000000 in
set_option maxRecDepth 100000 in
theorem ct_X8_read {l : Launch} {w : Kw} (hw : wOk w) {m : Nat} (hM : shM w m) {n : Nat} (hn : n ≤ 150) (h : xI) (g : xJ) (hb : h m 11 = nI n) (hI : mOk h m) : Ct l w yX8_read cX8_read 3 (some .int) 7 152 [.ref (wA w (m))] h g (pQ (fun h' => fR m h h' ∧ mOk h' m)) := by
  refine Ct_of (ls := [some (.ref (wA w (m))), none, none]) (by decide) hw (Nat.le_of_ble_eq_true rfl) rfl (fun k hkl C => ?_)
  have C : Cx k w cX8_read RX8 3 (some .int) 7 152 := C
  have D := dtX8_read
  subst hkl
  have hM0 := hM
  obtain ⟨hm, hsm, hs1, hs2, hs3, hs4, hs5, hs6, hs7, hs8, hs9, hs10, hs11⟩ := hM
  have hM := hM0
  refine X_aload_n C 0 (D (0, .aload_n 0, 1) (mg 0 rfl)) rfl rfl ?_
  refine X_iconst (v := nI (0)) C (D (1, .iconst 0, 1) (mg 1 rfl)) (by decide) ?_
  refine X_cV (As := [.int (nI (0))]) (st := []) C (post := _) (m) (by omega) hsm rfl (ct_X8_lookAt hw hM (n := n) (f0 := 0) (by omega) (by omega) h g (hb)) kX8_268 (by decide) (by decide) rfl rfl (Nat.le_of_ble_eq_true rfl) (D (2, .invokevirtual 268, 3) (mg 2 rfl)) rfl (fun v3 H1 G2 hv3 => ?_)
  obtain ⟨rfl, f4, a5, l6, hga5, hsa5, ea5, el6, hda5⟩ := hv3
  show X k w _ 5 [some (.ref (wA w (m))), none, none] [] H1 G2
  refine X_aload_n C 0 (D (5, .aload_n 0, 1) (mg 3 rfl)) rfl rfl ?_
  refine X_iconst (v := nI (4)) C (D (6, .iconst 4, 1) (mg 4 rfl)) (by decide) ?_
  refine X_bipush (v := nI (110)) C (D (7, .bipush 110, 2) (mg 5 rfl)) (by decide) ?_
  refine X_bipush (v := nI (97)) C (D (9, .bipush 97, 2) (mg 6 rfl)) (by decide) ?_
  refine X_bipush (v := nI (118)) C (D (11, .bipush 118, 2) (mg 7 rfl)) (by decide) ?_
  refine X_bipush (v := nI (101)) C (D (13, .bipush 101, 2) (mg 8 rfl)) (by decide) ?_
  refine X_iconst (v := nI (0)) C (D (15, .iconst 0, 1) (mg 9 rfl)) (by decide) ?_
  refine X_iconst (v := nI (0)) C (D (16, .iconst 0, 1) (mg 10 rfl)) (by decide) ?_
  refine X_cV (As := [.int (nI (4)), .int (nI (110)), .int (nI (97)), .int (nI (118)), .int (nI (101)), .int (nI (0)), .int (nI (0))]) (st := []) C (post := _) (m) (by omega) hsm rfl (ct_X8_spells hw hM (n := n) (a := a5) (l0 := l6) (by omega) (by omega) (z0 := 4) (by omega) (nI (110)) (nI (97)) (nI (118)) (nI (101)) (nI (0)) (nI (0)) H1 G2 (((f4 _ _ (by omega))).trans hb) (ea5) (el6)) kX8_277 (by decide) (by decide) rfl rfl (Nat.le_of_ble_eq_true rfl) (D (17, .invokevirtual 277, 3) (mg 11 rfl)) rfl (fun v9 H7 G8 hv9 => ?_)
  obtain ⟨⟨y10, rfl, hy10⟩, rfl, rfl⟩ := hv9
  show X k w _ 20 [some (.ref (wA w (m))), none, none] [.int (y10)] H1 G2
  refine X_if_ne (tgt := 31) C (D (20, .ifCond .ne 11, 3) (mg 12 rfl)) (by decide) (fun q11 => ?_) (fun q11 => ?_)
  · skip
    refine X_aload_n C 0 (D (31, .aload_n 0, 1) (mg 18 rfl)) rfl rfl ?_
    refine X_cV (As := []) (st := []) C (post := _) (m) (by omega) hsm rfl (ct_X8_goBehind hw hM (n := n) (a := a5) (l0 := l6) (by omega) (by omega) H1 G2 (((f4 _ _ (by omega))).trans hb) (ea5) (el6)) kX8_271 (by decide) (by decide) rfl rfl (Nat.le_of_ble_eq_true rfl) (D (32, .invokevirtual 271, 3) (mg 19 rfl)) rfl (fun v14 H12 G13 hv14 => ?_)
    obtain ⟨rfl, f15, a16, l17, hga16, hsa16, ea16, el17, hda16⟩ := hv14
    show X k w _ 35 [some (.ref (wA w (m))), none, none] [] H12 G13
    refine X_aload_n C 0 (D (35, .aload_n 0, 1) (mg 20 rfl)) rfl rfl ?_
    refine X_iconst (v := nI (0)) C (D (36, .iconst 0, 1) (mg 21 rfl)) (by decide) ?_
    refine X_iconst (v := nI (0)) C (D (37, .iconst 0, 1) (mg 22 rfl)) (by decide) ?_
    refine X_iconst (v := nI (5)) C (D (38, .iconst 5, 1) (mg 23 rfl)) (by decide) ?_
    refine X_cV (As := [.int (nI (0)), .int (nI (0)), .int (nI (5))]) (st := []) C (post := _) (m) (by omega) hsm rfl (ct_X8_takes hw hM (n := n) (a := a16) (l0 := l17) (by omega) (by omega) (K := 0) (A := 0) (B := 5) (by decide) (by decide) H12 G13 ((((f15 _ _ (by omega))).trans (f4 _ _ (by omega))).trans hb) (ea16) (el17) hda16) kX8_274 (by decide) (by decide) rfl rfl (Nat.le_of_ble_eq_true rfl) (D (39, .invokevirtual 274, 3) (mg 24 rfl)) rfl (fun v20 H18 G19 hv20 => ?_)
    obtain ⟨y21, rfl, h01y21, f22, ⟨a23, l24, hga23, hsa23, ea23, el24, hda23⟩, hqy21⟩ := hv20
    show X k w _ 42 [some (.ref (wA w (m))), none, none] [.int (y21)] H18 G19
    refine X_if_eq (tgt := 64) C (D (42, .ifCond .eq 22, 3) (mg 25 rfl)) (by decide) (fun q25 => ?_) (fun q25 => ?_)
    · skip
      refine X_bipush (v := (-10 : Int32)) C (D (64, .bipush (-10), 2) (mg 36 rfl)) (by decide) ?_
      refine X_aload_n C 0 (D (66, .aload_n 0, 1) (mg 37 rfl)) rfl rfl ?_
      refine X_get (v := .int (H18 (m) 12)) C (m) 12 (by omega) hsm rfl rfl (by decide) inX8 fX8_250 rfl (D (67, .getfield 250, 3) (mg 38 rfl)) rfl ?_
      refine X_ti (y := nI (a23)) (ea23) ?_
      refine X_isub C (D (70, .isub, 1) (mg 39 rfl)) ?_
      exact X_iret C (D (71, .ireturn, 1) (mg 40 rfl)) ⟨⟨_, rfl⟩, rr_a hI (fun q i z1 z2 z3 => by rw [f22 _ _ (by omega) (by omega), f15 _ _ (by omega), f4 _ _ (by omega)])⟩
    · skip
      obtain ⟨v26, hlv26, huv26, ev26⟩ := hqy21 q25
      refine X_aload_n C 0 (D (45, .aload_n 0, 1) (mg 26 rfl)) rfl rfl ?_
      refine X_iconst (v := nI (1)) C (D (46, .iconst 1, 1) (mg 27 rfl)) (by decide) ?_
      refine X_iconst (v := nI (0)) C (D (47, .iconst 0, 1) (mg 28 rfl)) (by decide) ?_
      refine X_bipush (v := nI (24)) C (D (48, .bipush 24, 2) (mg 29 rfl)) (by decide) ?_
      refine X_cV (As := [.int (nI (1)), .int (nI (0)), .int (nI (24))]) (st := []) C (post := _) (m) (by omega) hsm rfl (ct_X8_takes hw hM (n := n) (a := a23) (l0 := l24) (by omega) (by omega) (K := 1) (A := 0) (B := 24) (by decide) (by decide) H18 G19 (((((f22 _ _ (by omega) (by omega))).trans (f15 _ _ (by omega))).trans (f4 _ _ (by omega))).trans hb) (ea23) (el24) hda23) kX8_274 (by decide) (by decide) rfl rfl (Nat.le_of_ble_eq_true rfl) (D (50, .invokevirtual 274, 3) (mg 30 rfl)) rfl (fun v29 H27 G28 hv29 => ?_)
      obtain ⟨y30, rfl, h01y30, f31, ⟨a32, l33, hga32, hsa32, ea32, el33, hda32⟩, hqy30⟩ := hv29
      show X k w _ 53 [some (.ref (wA w (m))), none, none] [.int (y30)] H27 G28
      refine X_if_eq (tgt := 64) C (D (53, .ifCond .eq 11, 3) (mg 31 rfl)) (by decide) (fun q34 => ?_) (fun q34 => ?_)
      · skip
        refine X_bipush (v := (-10 : Int32)) C (D (64, .bipush (-10), 2) (mg 36 rfl)) (by decide) ?_
        refine X_aload_n C 0 (D (66, .aload_n 0, 1) (mg 37 rfl)) rfl rfl ?_
        refine X_get (v := .int (H27 (m) 12)) C (m) 12 (by omega) hsm rfl rfl (by decide) inX8 fX8_250 rfl (D (67, .getfield 250, 3) (mg 38 rfl)) rfl ?_
        refine X_ti (y := nI (a32)) (ea32) ?_
        refine X_isub C (D (70, .isub, 1) (mg 39 rfl)) ?_
        exact X_iret C (D (71, .ireturn, 1) (mg 40 rfl)) ⟨⟨_, rfl⟩, rr_a hI (fun q i z1 z2 z3 => by rw [f31 _ _ (by omega) (by omega), f22 _ _ (by omega) (by omega), f15 _ _ (by omega), f4 _ _ (by omega)])⟩
      · skip
        obtain ⟨v35, hlv35, huv35, ev35⟩ := hqy30 q34
        refine X_aload_n C 0 (D (56, .aload_n 0, 1) (mg 32 rfl)) rfl rfl ?_
        refine X_get (v := .int (H27 (m) 14)) C (m) 14 (by omega) hsm rfl rfl (by decide) inX8 fX8_256 rfl (D (57, .getfield 256, 3) (mg 33 rfl)) rfl ?_
        refine X_iconst (v := nI (3)) C (D (60, .iconst 3, 1) (mg 34 rfl)) (by decide) ?_
        refine X_icmp_eq (tgt := 72) C (D (61, .if_icmp .eq 11, 3) (mg 35 rfl)) (by decide) (fun q36 => ?_) (fun q36 => ?_)
        · skip
          have hl3 : 1 ≤ l33 := hda32.elim (fun z => absurd (z.symm.trans q36) (by decide)) (fun z => z)
          refine X_aload_n C 0 (D (72, .aload_n 0, 1) (mg 41 rfl)) rfl rfl ?_
          refine X_cV (As := []) (st := []) C (post := _) (m) (by omega) hsm rfl (ct_X8_goBehind hw hM (n := n) (a := a32) (l0 := l33) (by omega) (by omega) H27 G28 ((((((f31 _ _ (by omega) (by omega))).trans (f22 _ _ (by omega) (by omega))).trans (f15 _ _ (by omega))).trans (f4 _ _ (by omega))).trans hb) (ea32) (el33)) kX8_271 (by decide) (by decide) rfl rfl (Nat.le_of_ble_eq_true rfl) (D (73, .invokevirtual 271, 3) (mg 42 rfl)) rfl (fun v39 H37 G38 hv39 => ?_)
          obtain ⟨rfl, f40, a41, l42, hga41, hsa41, ea41, el42, hda41⟩ := hv39
          show X k w _ 76 [some (.ref (wA w (m))), none, none] [] H37 G38
          refine X_aload_n C 0 (D (76, .aload_n 0, 1) (mg 43 rfl)) rfl rfl ?_
          refine X_get (v := .ref (wA w (m + 10))) C (m) 16 (by omega) hsm rfl rfl (by decide) inX8 fX8_42 rfl (D (77, .getfield 42, 3) (mg 44 rfl)) rfl ?_
          refine X_aload_n C 0 (D (80, .aload_n 0, 1) (mg 45 rfl)) rfl rfl ?_
          refine X_get (v := .ref (wA w (m + 11))) C (m) 17 (by omega) hsm rfl rfl (by decide) inX8 fX8_45 rfl (D (81, .getfield 45, 3) (mg 46 rfl)) rfl ?_
          refine X_iconst (v := nI (0)) C (D (84, .iconst 0, 1) (mg 47 rfl)) (by decide) ?_
          refine X_iald (v := H37 (m + 11) (0)) C (m + 11) (by omega) hs11 (vp_in_nI (by omega) (by omega)) (D (85, .iaload, 1) (mg 48 rfl)) (by rw [nI_clamp (by omega)]) ?_
          refine X_ti (y := nI (v26)) ((((f40 _ _ (by omega))).trans (f31 _ _ (by omega) (by omega))).trans ev26) ?_
          refine X_aload_n C 0 (D (86, .aload_n 0, 1) (mg 49 rfl)) rfl rfl ?_
          refine X_get (v := .ref (wA w (m + 11))) C (m) 17 (by omega) hsm rfl rfl (by decide) inX8 fX8_45 rfl (D (87, .getfield 45, 3) (mg 50 rfl)) rfl ?_
          refine X_iconst (v := nI (1)) C (D (90, .iconst 1, 1) (mg 51 rfl)) (by decide) ?_
          refine X_iald (v := H37 (m + 11) (1)) C (m + 11) (by omega) hs11 (vp_in_nI (by omega) (by omega)) (D (91, .iaload, 1) (mg 52 rfl)) (by rw [nI_clamp (by omega)]) ?_
          refine X_ti (y := nI (v35)) (((f40 _ _ (by omega))).trans ev35) ?_
          refine X_cS (As := [.ref (wA w (m + 10)), .int (nI (v26)), .int (nI (v35))]) (st := []) C (post := _) (ct_X8_begin hw (⟨by omega, hs10, by omega, by omega⟩ : rw94 w (m + 10) 94) (nI (v26)) (nI (v35)) H37 G38) kX8_48 (by decide) (by decide) rfl rfl (Nat.le_of_ble_eq_true rfl) (D (92, .invokestatic 48, 3) (mg 53 rfl)) rfl (fun v45 H43 G44 hv45 => ?_)
          obtain ⟨rfl, rfl, rfl⟩ := hv45
          show X k w _ 95 [some (.ref (wA w (m))), none, none] [] (bgH H37 (m + 10) (nI (v26)) (nI (v35))) G38
          refine X_iconst (v := nI (1)) C (D (95, .iconst 1, 1) (mg 54 rfl)) (by decide) ?_
          refine X_istore_n (ls' := [some (.ref (wA w (m))), some (.int (nI (1))), none]) C 1 (D (96, .istore_n 1, 1) (mg 55 rfl)) rfl (Nat.le_of_ble_eq_true rfl) rfl ?_
          have lp97 : ∀ (nn97 : Nat) (a1 : Nat) (it : Int32) (hp97 : xI) (gp97 : xJ), (a1 ≤ n) → (pW m n a1 h hp97) → n + 1 - a1 ≤ nn97 → X k w (Zq k w (pQ (fun h' => fR m h h' ∧ mOk h' m))) 97 [some (.ref (wA w (m))), some (.int (it)), none] [] hp97 gp97 := by
            intro nn97
            induction nn97 with
            | zero => intro a1 it hp97 gp97 hc97_0 hc97_1 hz; exact absurd hz (by omega)
            | succ nn97 ih97 =>
              intro a1 it hp97 gp97 hc97_0 hc97_1 hz97
              obtain ⟨⟨a46, l47, hga46, hsa46, ea46, el47, hda46⟩, ⟨z0a46, z1a46, z2a46, c48, hc48, ec48⟩⟩ := (hc97_1).2
              refine X_aload_n C 0 (D (97, .aload_n 0, 1) (mg 56 rfl)) rfl rfl ?_
              refine X_get (v := .int (hp97 (m) 14)) C (m) 14 (by omega) hsm rfl rfl (by decide) inX8 fX8_256 rfl (D (98, .getfield 256, 3) (mg 57 rfl)) rfl ?_
              refine X_if_eq (tgt := 137) C (D (101, .ifCond .eq 36, 3) (mg 58 rfl)) (by decide) (fun q49 => ?_) (fun q49 => ?_)
              · skip
                refine X_iconst (v := nI (0)) C (D (137, .iconst 0, 1) (mg 75 rfl)) (by decide) ?_
                refine X_istore_n (ls' := [some (.ref (wA w (m))), some (.int (it)), some (.int (nI (0)))]) C 2 (D (138, .istore_n 2, 1) (mg 76 rfl)) rfl (Nat.le_of_ble_eq_true rfl) rfl ?_
                have lp139 : ∀ (nn139 : Nat) (j : Nat), (j ≤ 94) → 95 - j ≤ nn139 → X k w (Zq k w (pQ (fun h' => fR m h h' ∧ mOk h' m))) 139 [some (.ref (wA w (m))), some (.int (it)), some (.int (nI (j)))] [] (cpS hp97 (m + 10) 0 (m + 1) 0 (j)) gp97 := by
                  intro nn139
                  induction nn139 with
                  | zero => intro j hc139_0 hz; exact absurd hz (by omega)
                  | succ nn139 ih139 =>
                    intro j hc139_0 hz139
                    refine X_iload_n C 2 (D (139, .iload_n 2, 1) (mg 77 rfl)) rfl rfl ?_
                    refine X_bipush (v := nI (94)) C (D (140, .bipush 94, 2) (mg 78 rfl)) (by decide) ?_
                    refine X_icmp_ge (tgt := 163) C (D (142, .if_icmp .ge 21, 3) (mg 79 rfl)) (by decide) (fun q50 => ?_) (fun q50 => ?_)
                    · skip
                      have q50 : (j) ≥ (94) := by have z := (nI_leI (a := (94)) (b := (j)) (by omega) (by omega)).mp q50; omega
                      refine X_iload_n C 1 (D (163, .iload_n 1, 1) (mg 90 rfl)) rfl rfl ?_
                      exact X_iret C (D (164, .ireturn, 1) (mg 91 rfl)) ⟨⟨_, rfl⟩, by rw [show j = 94 by omega]; exact rr_b hI (hc97_1).1 (hc97_1).2.2⟩
                    · skip
                      have q50 : (j) < (94) := by have z : ¬ ((94) ≤ (j)) := fun u => q50 ((nI_leI (a := (94)) (b := (j)) (by omega) (by omega)).mpr u); omega
                      refine X_aload_n C 0 (D (145, .aload_n 0, 1) (mg 80 rfl)) rfl rfl ?_
                      refine X_get (v := .ref (wA w (m + 1))) C (m) 0 (by omega) hsm rfl rfl (by decide) inX8 fX8_7 rfl (D (146, .getfield 7, 3) (mg 81 rfl)) rfl ?_
                      refine X_iload_n C 2 (D (149, .iload_n 2, 1) (mg 82 rfl)) rfl rfl ?_
                      refine X_aload_n C 0 (D (150, .aload_n 0, 1) (mg 83 rfl)) rfl rfl ?_
                      refine X_get (v := .ref (wA w (m + 10))) C (m) 16 (by omega) hsm rfl rfl (by decide) inX8 fX8_42 rfl (D (151, .getfield 42, 3) (mg 84 rfl)) rfl ?_
                      refine X_iload_n C 2 (D (154, .iload_n 2, 1) (mg 85 rfl)) rfl rfl ?_
                      refine X_iald (v := (cpS hp97 (m + 10) 0 (m + 1) 0 (j)) (m + 10) (j)) C (m + 10) (by omega) hs10 (vp_in_nI (by omega) (by omega)) (D (155, .iaload, 1) (mg 86 rfl)) (by rw [nI_clamp (by omega)]) ?_
                      refine X_iast (j := j) C (m + 1) (by omega) hs1 (vp_in_nI (by omega) (by omega)) (D (156, .iastore, 1) (mg 87 rfl)) (nI_clamp (by omega)) ?_
                      refine X_iinc (v := nI (j + 1)) (ls' := [some (.ref (wA w (m))), some (.int (it)), some (.int (nI (j + 1)))]) C (D (157, .iinc 2 1, 3) (mg 88 rfl)) rfl (nI_add (j) 1) rfl ?_
                      refine X_goto (tgt := 139) C (D (160, .goto (-21), 3) (mg 89 rfl)) (by decide) ?_
                      refine X_eq (ls' := [some (.ref (wA w (m))), some (.int (it)), some (.int (nI (j + 1)))]) (st' := []) (h' := (cpS hp97 (m + 10) 0 (m + 1) 0 (j + 1))) (g' := gp97) rfl rfl (by have z := cpS_s hp97 (m + 10) 0 (m + 1) 0 (j) (v := cpS hp97 (m + 10) 0 (m + 1) 0 (j) (m + 10) (j)) (by rw [Nat.zero_add]; exact (cpS_n hp97 (m + 10) 0 (m + 1) 0 (j) _ (by omega)).symm); rw [Nat.zero_add] at z; exact z) rfl ?_
                      exact ih139 (j + 1) (by omega) (by omega)
                refine X_eq (ls' := [some (.ref (wA w (m))), some (.int (it)), some (.int (nI (0)))]) (st' := []) (h' := (cpS hp97 (m + 10) 0 (m + 1) 0 (0))) (g' := gp97) rfl rfl (cpS_0 hp97 (m + 10) 0 (m + 1) 0).symm rfl ?_
                exact lp139 _ (0) (by omega) (Nat.le_refl _)
              · skip
                refine X_aload_n C 0 (D (104, .aload_n 0, 1) (mg 59 rfl)) rfl rfl ?_
                refine X_cV (As := []) (st := []) C (post := _) (m) (by omega) hsm rfl (ct_X8_takesItem hw hM (n := n) (a := a46) (l0 := l47) (by omega) (by omega) hp97 gp97 ((((hc97_1).1 _ _ (by omega) (by omega) (by omega)).trans hb)) (ea46) (el47) hda46 ⟨(z0a46), (z1a46), (z2a46), c48, by omega, (ec48)⟩) kX8_294 (by decide) (by decide) rfl rfl (Nat.le_of_ble_eq_true rfl) (D (105, .invokevirtual 294, 3) (mg 60 rfl)) rfl (fun v53 H51 G52 hv53 => ?_)
                obtain ⟨y54, rfl, h01y54, w55⟩ := hv53
                have w55 : pW m n a1 h H51 := pW_t hc97_1 w55 (by omega)
                obtain ⟨⟨a56, l57, hga56, hsa56, ea56, el57, hda56⟩, ⟨z0a56, z1a56, z2a56, c58, hc58, ec58⟩⟩ := (w55).2
                show X k w _ 108 [some (.ref (wA w (m))), some (.int (it)), none] [.int (y54)] H51 G52
                refine X_if_eq (tgt := 119) C (D (108, .ifCond .eq 11, 3) (mg 61 rfl)) (by decide) (fun q59 => ?_) (fun q59 => ?_)
                · skip
                  refine X_bipush (v := (-10 : Int32)) C (D (119, .bipush (-10), 2) (mg 66 rfl)) (by decide) ?_
                  refine X_aload_n C 0 (D (121, .aload_n 0, 1) (mg 67 rfl)) rfl rfl ?_
                  refine X_get (v := .int (H51 (m) 12)) C (m) 12 (by omega) hsm rfl rfl (by decide) inX8 fX8_250 rfl (D (122, .getfield 250, 3) (mg 68 rfl)) rfl ?_
                  refine X_ti (y := nI (a56)) (ea56) ?_
                  refine X_isub C (D (125, .isub, 1) (mg 69 rfl)) ?_
                  exact X_iret C (D (126, .ireturn, 1) (mg 70 rfl)) ⟨⟨_, rfl⟩, rr_a hI (w55).1⟩
                · skip
                  refine X_aload_n C 0 (D (111, .aload_n 0, 1) (mg 62 rfl)) rfl rfl ?_
                  refine X_get (v := .int (H51 (m) 14)) C (m) 14 (by omega) hsm rfl rfl (by decide) inX8 fX8_256 rfl (D (112, .getfield 256, 3) (mg 63 rfl)) rfl ?_
                  refine X_iconst (v := nI (3)) C (D (115, .iconst 3, 1) (mg 64 rfl)) (by decide) ?_
                  refine X_icmp_eq (tgt := 127) C (D (116, .if_icmp .eq 11, 3) (mg 65 rfl)) (by decide) (fun q60 => ?_) (fun q60 => ?_)
                  · skip
                    have hl3 : 1 ≤ l57 := hda56.elim (fun z => absurd (z.symm.trans q60) (by decide)) (fun z => z)
                    refine X_aload_n C 0 (D (127, .aload_n 0, 1) (mg 71 rfl)) rfl rfl ?_
                    refine X_cV (As := []) (st := []) C (post := _) (m) (by omega) hsm rfl (ct_X8_goBehind hw hM (n := n) (a := a56) (l0 := l57) (by omega) (by omega) H51 G52 ((((w55).1 _ _ (by omega) (by omega) (by omega)).trans hb)) (ea56) (el57)) kX8_271 (by decide) (by decide) rfl rfl (Nat.le_of_ble_eq_true rfl) (D (128, .invokevirtual 271, 3) (mg 72 rfl)) rfl (fun v63 H61 G62 hv63 => ?_)
                    obtain ⟨rfl, f64, a65, l66, hga65, hsa65, ea65, el66, hda65⟩ := hv63
                    show X k w _ 131 [some (.ref (wA w (m))), some (.int (it)), none] [] H61 G62
                    refine X_iinc (v := it + 1) (ls' := [some (.ref (wA w (m))), some (.int (it + 1)), none]) C (D (131, .iinc 1 1, 3) (mg 73 rfl)) rfl rfl rfl ?_
                    refine X_goto (tgt := 97) C (D (134, .goto (-37), 3) (mg 74 rfl)) (by decide) ?_
                    refine X_eq (ls' := [some (.ref (wA w (m))), some (.int (it + 1)), none]) (st' := []) (h' := H61) (g' := G62) rfl rfl rfl rfl ?_
                    exact ih97 (a65) (it + 1) (H61) (G62) (by omega) ⟨fun q i z1 z2 z3 => by rw [f64 _ _ (by omega)]; exact (w55).1 q i z1 z2 z3, ⟨a65, l66, by omega, by omega, (ea65), (el66), hda65⟩, ⟨(((f64 _ _ (by omega))).trans z0a56), (((f64 _ _ (by omega))).trans z1a56), (((f64 _ _ (by omega))).trans z2a56), c58, by omega, (((f64 _ _ (by omega))).trans ec58)⟩⟩ (by omega)
                  · skip
                    refine X_bipush (v := (-10 : Int32)) C (D (119, .bipush (-10), 2) (mg 66 rfl)) (by decide) ?_
                    refine X_aload_n C 0 (D (121, .aload_n 0, 1) (mg 67 rfl)) rfl rfl ?_
                    refine X_get (v := .int (H51 (m) 12)) C (m) 12 (by omega) hsm rfl rfl (by decide) inX8 fX8_250 rfl (D (122, .getfield 250, 3) (mg 68 rfl)) rfl ?_
                    refine X_ti (y := nI (a56)) (ea56) ?_
                    refine X_isub C (D (125, .isub, 1) (mg 69 rfl)) ?_
                    exact X_iret C (D (126, .ireturn, 1) (mg 70 rfl)) ⟨⟨_, rfl⟩, rr_a hI (w55).1⟩
          refine X_eq (ls' := [some (.ref (wA w (m))), some (.int (nI (1))), none]) (st' := []) (h' := (bgH H37 (m + 10) (nI (v26)) (nI (v35)))) (g' := G38) rfl rfl rfl rfl ?_
          exact lp97 _ (a41) (nI (1)) ((bgH H37 (m + 10) (nI (v26)) (nI (v35)))) (G38) (by omega) ⟨fun q i z1 z2 z3 => by rw [bgH_ne _ _ _ _ (by omega), f40 _ _ (by omega), f31 _ _ (by omega) (by omega), f22 _ _ (by omega) (by omega), f15 _ _ (by omega), f4 _ _ (by omega)], ⟨a41, l42, by omega, by omega, (((bgH_ne _ _ _ _ (by omega))).trans ea41), (((bgH_ne _ _ _ _ (by omega))).trans el42), (by rw [bgH_ne _ _ _ _ (by omega)]; exact hda41)⟩, ⟨((bgH_0 _ _ _ _ (by omega))), ((bgH_0 _ _ _ _ (by omega))), ((bgH_0 _ _ _ _ (by omega))), v35, by omega, ((bgH_28 _ _ _ _))⟩⟩ (Nat.le_refl _)
        · skip
          refine X_bipush (v := (-10 : Int32)) C (D (64, .bipush (-10), 2) (mg 36 rfl)) (by decide) ?_
          refine X_aload_n C 0 (D (66, .aload_n 0, 1) (mg 37 rfl)) rfl rfl ?_
          refine X_get (v := .int (H27 (m) 12)) C (m) 12 (by omega) hsm rfl rfl (by decide) inX8 fX8_250 rfl (D (67, .getfield 250, 3) (mg 38 rfl)) rfl ?_
          refine X_ti (y := nI (a32)) (ea32) ?_
          refine X_isub C (D (70, .isub, 1) (mg 39 rfl)) ?_
          exact X_iret C (D (71, .ireturn, 1) (mg 40 rfl)) ⟨⟨_, rfl⟩, rr_a hI (fun q i z1 z2 z3 => by rw [f31 _ _ (by omega) (by omega), f22 _ _ (by omega) (by omega), f15 _ _ (by omega), f4 _ _ (by omega)])⟩
  · skip
    refine X_bipush (v := (-10 : Int32)) C (D (23, .bipush (-10), 2) (mg 13 rfl)) (by decide) ?_
    refine X_aload_n C 0 (D (25, .aload_n 0, 1) (mg 14 rfl)) rfl rfl ?_
    refine X_get (v := .int (H1 (m) 12)) C (m) 12 (by omega) hsm rfl rfl (by decide) inX8 fX8_250 rfl (D (26, .getfield 250, 3) (mg 15 rfl)) rfl ?_
    refine X_ti (y := nI (a5)) (ea5) ?_
    refine X_isub C (D (29, .isub, 1) (mg 16 rfl)) ?_
    exact X_iret C (D (30, .ireturn, 1) (mg 17 rfl)) ⟨⟨_, rfl⟩, rr_a hI (fun q i z1 z2 z3 => by rw [f4 _ _ (by omega)])⟩
