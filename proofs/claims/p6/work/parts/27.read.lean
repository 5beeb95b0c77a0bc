/-! THE CLASS, 9: read, weak -/
set_option maxHeartbeats 4000000 in
set_option maxRecDepth 100000 in
theorem ct_X5_readItems {l : Launch} {w : Kw} (hw : wOk w) {t n : Nat} (hX : shX w t) (hn : n ≤ 150) {aK aV : Nat → Nat} {zr : Value} (hs : sOk w aK aV zr) (hz : zr = .null ∨ ∃ ra, zr = .ref ra) (h : xI) (g : xJ) (hb : h t 2 = nI n) (hI : atOk h (t + 2)) : Ct l w yX5_readItems cX5_readItems 2 (some .int) 6 129 [.ref (wA w (t))] h g (pQ (tW t n h)) := by
  refine Ct_of (ls := [some (.ref (wA w (t))), none]) (by decide) hw (Nat.le_of_ble_eq_true rfl) rfl (fun k hkl C => ?_)
  have C : Cx k w cX5_readItems RX5 2 (some .int) 6 129 := C
  have D := dtX5_readItems
  subst hkl
  have hX0 := hX
  obtain ⟨htn, hst, hs1, hN2⟩ := hX
  have hX := hX0
  obtain ⟨c0, hc0, hat⟩ := hI
  refine X_iconst (v := nI (0)) C (D (0, .iconst 0, 1) (mg 0 rfl)) (by decide) ?_
  refine X_istore_n (ls' := [some (.ref (wA w (t))), some (.int (nI (0)))]) C 1 (D (1, .istore_n 1, 1) (mg 1 rfl)) rfl (Nat.le_of_ble_eq_true rfl) rfl ?_
  refine X_aload_n C 0 (D (2, .aload_n 0, 1) (mg 2 rfl)) rfl rfl ?_
  refine X_iconst (v := nI (0)) C (D (3, .iconst 0, 1) (mg 3 rfl)) (by decide) ?_
  refine X_putI C (t) 3 tyX5 tyX5_ok nmX5 (by omega) hst rfl rfl (by decide) inX5 fX5_22 rfl rfl (by decide +kernel) (D (4, .putfield 22, 3) (mg 4 rfl)) ?_
  refine X_aload_n C 0 (D (7, .aload_n 0, 1) (mg 5 rfl)) rfl rfl ?_
  refine X_cV (As := []) (st := []) C (post := _) (t) (by omega) hst rfl (ct_X5_advance hw (t := t) (n := n) hX hn (p := 0) (by omega) (u2 h (t) 3 (nI (0))) g (((u2_i _ _ _ _ (by omega))).trans hb) ((u2_s _ _ _ _))) kX5_26 (by decide) (by decide) rfl rfl (Nat.le_of_ble_eq_true rfl) (D (8, .invokevirtual 26, 3) (mg 6 rfl)) rfl (fun v3 H1 G2 hv3 => ?_)
  obtain ⟨rfl, f4, p5, s6, hlp5, hup5, ep5, es6⟩ := hv3
  show X k w _ 11 [some (.ref (wA w (t))), some (.int (nI (0)))] [] H1 G2
  have lp11 : ∀ (nn11 : Nat) (j : Nat) (hp11 : xI) (gp11 : xJ), (j ≤ 150) → (tW t n h hp11) → 151 - j ≤ nn11 → X k w (Zq k w (pQ (tW t n h))) 11 [some (.ref (wA w (t))), some (.int (nI (j)))] [] hp11 gp11 := by
    intro nn11
    induction nn11 with
    | zero => intro j hp11 gp11 hc11_0 hc11_1 hz; exact absurd hz (by omega)
    | succ nn11 ih11 =>
      intro j hp11 gp11 hc11_0 hc11_1 hz11
      obtain ⟨⟨p7, s8, hlp7, hup7, ep7, es8⟩, ⟨c9, hc9, ec9⟩⟩ := (hc11_1).2
      refine X_iload_n C 1 (D (11, .iload_n 1, 1) (mg 7 rfl)) rfl rfl ?_
      refine X_sipush (v := nI (150)) C (D (12, .sipush 150, 3) (mg 8 rfl)) (by decide) ?_
      refine X_icmp_ge (tgt := 56) C (D (15, .if_icmp .ge 41, 3) (mg 9 rfl)) (by decide) (fun q10 => ?_) (fun q10 => ?_)
      · skip
        have q10 : (j) ≥ (150) := by have z := (nI_leI (a := (150)) (b := (j)) (by omega) (by omega)).mp q10; omega
        refine X_iload_n C 1 (D (56, .iload_n 1, 1) (mg 29 rfl)) rfl rfl ?_
        refine X_if_ne (tgt := 70) C (D (57, .ifCond .ne 13, 3) (mg 30 rfl)) (by decide) (fun q11 => ?_) (fun q11 => ?_)
        · skip
          have q11 : (j) ≠ (0) := by have z : ¬ ((j) = (0)) := fun u => q11 ((nI_eq (a := (j)) (b := (0)) (by omega) (by omega)).mpr u); omega
          refine X_iload_n C 1 (D (70, .iload_n 1, 1) (mg 36 rfl)) rfl rfl ?_
          exact X_iret C (D (71, .ireturn, 1) (mg 37 rfl)) ⟨⟨_, rfl⟩, hc11_1⟩
        · skip
          have q11 : (j) = (0) := by have z := (nI_eq (a := (j)) (b := (0)) (by omega) (by omega)).mp q11; omega
          refine X_bipush (v := (-10 : Int32)) C (D (60, .bipush (-10), 2) (mg 31 rfl)) (by decide) ?_
          refine X_aload_n C 0 (D (62, .aload_n 0, 1) (mg 32 rfl)) rfl rfl ?_
          refine X_get (v := .int (hp11 (t) 4)) C (t) 4 (by omega) hst rfl rfl (by decide) inX5 fX5_36 rfl (D (63, .getfield 36, 3) (mg 33 rfl)) rfl ?_
          refine X_ti (y := nI (s8)) (es8) ?_
          refine X_isub C (D (66, .isub, 1) (mg 34 rfl)) ?_
          refine X_goto (tgt := 71) C (D (67, .goto 4, 3) (mg 35 rfl)) (by decide) ?_
          exact X_iret C (D (71, .ireturn, 1) (mg 37 rfl)) ⟨⟨_, rfl⟩, hc11_1⟩
      · skip
        have q10 : (j) < (150) := by have z : ¬ ((150) ≤ (j)) := fun u => q10 ((nI_leI (a := (150)) (b := (j)) (by omega) (by omega)).mpr u); omega
        refine X_aload_n C 0 (D (18, .aload_n 0, 1) (mg 10 rfl)) rfl rfl ?_
        refine X_get (v := .int (hp11 (t) 5)) C (t) 5 (by omega) hst rfl rfl (by decide) inX5 fX5_29 rfl (D (19, .getfield 29, 3) (mg 11 rfl)) rfl ?_
        refine X_iconst (v := nI (4)) C (D (22, .iconst 4, 1) (mg 12 rfl)) (by decide) ?_
        refine X_icmp_eq (tgt := 56) C (D (23, .if_icmp .eq 33, 3) (mg 13 rfl)) (by decide) (fun q12 => ?_) (fun q12 => ?_)
        · skip
          refine X_iload_n C 1 (D (56, .iload_n 1, 1) (mg 29 rfl)) rfl rfl ?_
          refine X_if_ne (tgt := 70) C (D (57, .ifCond .ne 13, 3) (mg 30 rfl)) (by decide) (fun q13 => ?_) (fun q13 => ?_)
          · skip
            have q13 : (j) ≠ (0) := by have z : ¬ ((j) = (0)) := fun u => q13 ((nI_eq (a := (j)) (b := (0)) (by omega) (by omega)).mpr u); omega
            refine X_iload_n C 1 (D (70, .iload_n 1, 1) (mg 36 rfl)) rfl rfl ?_
            exact X_iret C (D (71, .ireturn, 1) (mg 37 rfl)) ⟨⟨_, rfl⟩, hc11_1⟩
          · skip
            have q13 : (j) = (0) := by have z := (nI_eq (a := (j)) (b := (0)) (by omega) (by omega)).mp q13; omega
            refine X_bipush (v := (-10 : Int32)) C (D (60, .bipush (-10), 2) (mg 31 rfl)) (by decide) ?_
            refine X_aload_n C 0 (D (62, .aload_n 0, 1) (mg 32 rfl)) rfl rfl ?_
            refine X_get (v := .int (hp11 (t) 4)) C (t) 4 (by omega) hst rfl rfl (by decide) inX5 fX5_36 rfl (D (63, .getfield 36, 3) (mg 33 rfl)) rfl ?_
            refine X_ti (y := nI (s8)) (es8) ?_
            refine X_isub C (D (66, .isub, 1) (mg 34 rfl)) ?_
            refine X_goto (tgt := 71) C (D (67, .goto 4, 3) (mg 35 rfl)) (by decide) ?_
            exact X_iret C (D (71, .ireturn, 1) (mg 37 rfl)) ⟨⟨_, rfl⟩, hc11_1⟩
        · skip
          refine X_aload_n C 0 (D (26, .aload_n 0, 1) (mg 14 rfl)) rfl rfl ?_
          refine X_iload_n C 1 (D (27, .iload_n 1, 1) (mg 15 rfl)) rfl rfl ?_
          refine X_if_ne (tgt := 35) C (D (28, .ifCond .ne 7, 3) (mg 16 rfl)) (by decide) (fun q14 => ?_) (fun q14 => ?_)
          · skip
            have q14 : (j) ≠ (0) := by have z : ¬ ((j) = (0)) := fun u => q14 ((nI_eq (a := (j)) (b := (0)) (by omega) (by omega)).mpr u); omega
            refine X_iconst (v := nI (0)) C (D (35, .iconst 0, 1) (mg 19 rfl)) (by decide) ?_
            refine X_cV (As := [.int (nI (0))]) (st := []) C (post := _) (t) (by omega) hst rfl (ct_X5_takesItem hw (t := t) (n := n) hX hn hs hz (nI (0)) hp11 gp11 ((((hc11_1).1 _ _ (by omega) (by omega)).trans hb)) ⟨⟨p7, s8, by omega, by omega, (ep7), (es8)⟩, ⟨c9, by omega, (ec9)⟩⟩) kX5_32 (by decide) (by decide) rfl rfl (Nat.le_of_ble_eq_true rfl) (D (36, .invokevirtual 32, 3) (mg 20 rfl)) rfl (fun v17 H15 G16 hv17 => ?_)
            obtain ⟨⟨y18, rfl⟩, w19⟩ := hv17
            have w19 : tW t n h H15 := tW_t hc11_1 w19
            obtain ⟨⟨p20, s21, hlp20, hup20, ep20, es21⟩, ⟨c22, hc22, ec22⟩⟩ := (w19).2
            show X k w _ 39 [some (.ref (wA w (t))), some (.int (nI (j)))] [.int (y18)] H15 G16
            refine X_if_ne (tgt := 50) C (D (39, .ifCond .ne 11, 3) (mg 21 rfl)) (by decide) (fun q23 => ?_) (fun q23 => ?_)
            · skip
              refine X_iinc (v := nI (j + 1)) (ls' := [some (.ref (wA w (t))), some (.int (nI (j + 1)))]) C (D (50, .iinc 1 1, 3) (mg 27 rfl)) rfl (nI_add (j) 1) rfl ?_
              refine X_goto (tgt := 11) C (D (53, .goto (-42), 3) (mg 28 rfl)) (by decide) ?_
              refine X_eq (ls' := [some (.ref (wA w (t))), some (.int (nI (j + 1)))]) (st' := []) (h' := H15) (g' := G16) rfl rfl rfl rfl ?_
              exact ih11 (j + 1) (H15) (G16) (by omega) w19 (by omega)
            · skip
              refine X_bipush (v := (-10 : Int32)) C (D (42, .bipush (-10), 2) (mg 22 rfl)) (by decide) ?_
              refine X_aload_n C 0 (D (44, .aload_n 0, 1) (mg 23 rfl)) rfl rfl ?_
              refine X_get (v := .int (H15 (t) 4)) C (t) 4 (by omega) hst rfl rfl (by decide) inX5 fX5_36 rfl (D (45, .getfield 36, 3) (mg 24 rfl)) rfl ?_
              refine X_ti (y := nI (s21)) (es21) ?_
              refine X_isub C (D (48, .isub, 1) (mg 25 rfl)) ?_
              exact X_iret C (D (49, .ireturn, 1) (mg 26 rfl)) ⟨⟨_, rfl⟩, w19⟩
          · skip
            have q14 : (j) = (0) := by have z := (nI_eq (a := (j)) (b := (0)) (by omega) (by omega)).mp q14; omega
            refine X_iconst (v := nI (1)) C (D (31, .iconst 1, 1) (mg 17 rfl)) (by decide) ?_
            refine X_goto (tgt := 36) C (D (32, .goto 4, 3) (mg 18 rfl)) (by decide) ?_
            refine X_cV (As := [.int (nI (1))]) (st := []) C (post := _) (t) (by omega) hst rfl (ct_X5_takesItem hw (t := t) (n := n) hX hn hs hz (nI (1)) hp11 gp11 ((((hc11_1).1 _ _ (by omega) (by omega)).trans hb)) ⟨⟨p7, s8, by omega, by omega, (ep7), (es8)⟩, ⟨c9, by omega, (ec9)⟩⟩) kX5_32 (by decide) (by decide) rfl rfl (Nat.le_of_ble_eq_true rfl) (D (36, .invokevirtual 32, 3) (mg 20 rfl)) rfl (fun v26 H24 G25 hv26 => ?_)
            obtain ⟨⟨y27, rfl⟩, w28⟩ := hv26
            have w28 : tW t n h H24 := tW_t hc11_1 w28
            obtain ⟨⟨p29, s30, hlp29, hup29, ep29, es30⟩, ⟨c31, hc31, ec31⟩⟩ := (w28).2
            show X k w _ 39 [some (.ref (wA w (t))), some (.int (nI (j)))] [.int (y27)] H24 G25
            refine X_if_ne (tgt := 50) C (D (39, .ifCond .ne 11, 3) (mg 21 rfl)) (by decide) (fun q32 => ?_) (fun q32 => ?_)
            · skip
              refine X_iinc (v := nI (j + 1)) (ls' := [some (.ref (wA w (t))), some (.int (nI (j + 1)))]) C (D (50, .iinc 1 1, 3) (mg 27 rfl)) rfl (nI_add (j) 1) rfl ?_
              refine X_goto (tgt := 11) C (D (53, .goto (-42), 3) (mg 28 rfl)) (by decide) ?_
              refine X_eq (ls' := [some (.ref (wA w (t))), some (.int (nI (j + 1)))]) (st' := []) (h' := H24) (g' := G25) rfl rfl rfl rfl ?_
              exact ih11 (j + 1) (H24) (G25) (by omega) w28 (by omega)
            · skip
              refine X_bipush (v := (-10 : Int32)) C (D (42, .bipush (-10), 2) (mg 22 rfl)) (by decide) ?_
              refine X_aload_n C 0 (D (44, .aload_n 0, 1) (mg 23 rfl)) rfl rfl ?_
              refine X_get (v := .int (H24 (t) 4)) C (t) 4 (by omega) hst rfl rfl (by decide) inX5 fX5_36 rfl (D (45, .getfield 36, 3) (mg 24 rfl)) rfl ?_
              refine X_ti (y := nI (s30)) (es30) ?_
              refine X_isub C (D (48, .isub, 1) (mg 25 rfl)) ?_
              exact X_iret C (D (49, .ireturn, 1) (mg 26 rfl)) ⟨⟨_, rfl⟩, w28⟩
  refine X_eq (ls' := [some (.ref (wA w (t))), some (.int (nI (0)))]) (st' := []) (h' := H1) (g' := G2) rfl rfl rfl rfl ?_
  exact lp11 _ (0) (H1) (G2) (by omega) ⟨fun q i z1 z2 => by rw [f4 _ _ (by omega), u2_ne _ _ _ _ (by omega)], ⟨p5, s6, by omega, by omega, (ep5), (es6)⟩, ⟨c0, by omega, ((((f4 _ _ (by omega))).trans (u2_p _ _ _ _ (by omega))).trans hat)⟩⟩ (Nat.le_refl _)
theorem ccH_23 (h : xI) (n o : Nat) {q i : Nat} (hn : (q ≠ n ∨ i < 2 ∨ 4 < i) ∧ q ≠ n + 1 ∧ q ≠ n + 2) : ccH h n o q i = h q i := ccH_ne h n o hn
theorem dnH_ne (h : xI) (t : Nat) {q i : Nat} (hn : ¬ (q = t + 4 ∧ i = 1) ∧ ¬ (q = t ∧ (i = 4 ∨ i = 5))) : dnH h t q i = h q i := by
  unfold dnH
  rw [u2_ne _ _ _ _ (by omega), u2_ne _ _ _ _ (by omega), u2_ne _ _ _ _ (by omega)]
theorem dnH_ok {h : xI} {t : Nat} (h1 : atOk h (t + 1)) (h2 : paOk h (t + 4)) : tOk (dnH h t) t := by
  obtain ⟨c, hc, e1⟩ := h1
  obtain ⟨-, e2⟩ := h2
  refine ⟨⟨c, hc, by rw [dnH_ne _ _ (by omega)]; exact e1⟩, ⟨⟨0, by omega, ?_⟩, fun r hr => ?_⟩, ⟨0, by omega, ?_⟩, ⟨0, by omega, ?_⟩⟩
  · unfold dnH; rw [u2_ne _ _ _ _ (by omega), u2_ne _ _ _ _ (by omega), u2_s]
  · obtain ⟨c', hc', e⟩ := e2 r hr
    exact ⟨c', hc', by rw [dnH_ne _ _ (by omega)]; exact e⟩
  · unfold dnH; rw [u2_ne _ _ _ _ (by omega), u2_s]
  · unfold dnH; rw [u2_s]
/-- what read may change -/
def rF (x : Nat) (h h' : xI) : Prop := ∀ q i, (q ≤ x ∨ x + 6 < q) → (q ≠ x + 33 ∨ i < 3) → (q < x + 35 ∨ x + 37 < q) → h' q i = h q i
theorem rd_a {x n : Nat} {h h' : xI} (hI : cOk h x) (hw : tW (x + 33) n h h') : rF x h h' ∧ cOk h' x := by
  obtain ⟨w1, w2, w3⟩ := hw
  obtain ⟨b1, b2, b3, ⟨n', hn', e5⟩, -⟩ := hI
  refine ⟨fun q i z1 z2 z3 => w1 q i z2 (by omega), tOk_k (fun q i z1 z2 => w1 q i (by omega) (by omega)) b1, tOk_k (fun q i z1 z2 => w1 q i (by omega) (by omega)) b2, tOk_k (fun q i z1 z2 => w1 q i (by omega) (by omega)) b3, ⟨n', hn', ?_⟩, w3⟩
  rw [w1 _ _ (by omega) (by omega)]; exact e5
theorem rd_b {x n : Nat} {h h' : xI} (hI : cOk h x) (hw : tW (x + 33) n h h') : rF x h (dnH (ccH h' (x + 2) (x + 35)) (x + 1)) ∧ cOk (dnH (ccH h' (x + 2) (x + 35)) (x + 1)) x := by
  obtain ⟨a1, ⟨a2, ⟨a3, -⟩, a4, a5, a6⟩⟩ := rd_a hI hw
  obtain ⟨b1, b2, b3, ⟨n', hn', e5⟩, ⟨c6, hc6, e6⟩⟩ := (rd_a hI hw).2
  have fr : ∀ q i, (q ≤ x ∨ x + 6 < q) → dnH (ccH h' (x + 2) (x + 35)) (x + 1) q i = h' q i := fun q i z => by
    rw [dnH_ne _ _ (by omega), ccH_ne _ _ _ (by omega)]
  refine ⟨fun q i z1 z2 z3 => (fr q i z1).trans (a1 q i z1 z2 z3), dnH_ok ⟨c6, hc6, ?_⟩ (paOk_k (fun q i z => ccH_ne _ _ _ (by omega)) b1.2.1), tOk_k (fun q i z1 z2 => fr q i (by omega)) b2, tOk_k (fun q i z1 z2 => fr q i (by omega)) b3, ⟨n', hn', by rw [fr _ _ (by omega)]; exact e5⟩, ⟨c6, hc6, by rw [fr _ _ (by omega)]; exact e6⟩⟩
  rw [ccH_at _ _ _ (by omega)]; exact e6
set_option maxHeartbeats 4000000 in
set_option maxRecDepth 100000 in
theorem ct_X7_read {l : Launch} {w : Kw} (hw : wOk w) {x : Nat} (hC : shC w x) {aK aV : Nat → Nat} {zr : Value} (hs : sOk w aK aV zr) (hz : zr = .null ∨ ∃ ra, zr = .ref ra) (h : xI) (g : xJ) (hI : cOk h x) : Ct l w yX7_read cX7_read 2 (some .int) 7 150 [.ref (wA w (x))] h g (pQ (fun h' => rF x h h' ∧ cOk h' x)) := by
  refine Ct_of (ls := [some (.ref (wA w (x))), none]) (by decide) hw (Nat.le_of_ble_eq_true rfl) rfl (fun k hkl C => ?_)
  have C : Cx k w cX7_read RX7 2 (some .int) 7 150 := C
  have D := dtX7_read
  subst hkl
  have hC0 := hC
  obtain ⟨hxn, hsx, hT, hsi, hTa, hTb, hsk, hNs, hY, hX, hsv⟩ := hC
  have hY2 := hY.1
  have hX2 := hX.1
  have hI0 := hI
  obtain ⟨⟨⟨c0, hc0, hat⟩, hpa, ⟨ns, hns, hse⟩, ⟨nm, hnm, hma⟩⟩, -, -, ⟨nt, hnt, htx⟩, ⟨ct, hct, hatx⟩⟩ := hI
  have hI := hI0
  refine X_aload_n C 0 (D (0, .aload_n 0, 1) (mg 0 rfl)) rfl rfl ?_
  refine X_get (v := .ref (wA w (x + 33))) C (x) 5 (by omega) hsx rfl rfl (by decide) inX7 fX7_41 rfl (D (1, .getfield 41, 3) (mg 1 rfl)) rfl ?_
  refine X_cV (As := []) (st := []) C (post := _) (x + 33) (by omega) hX.2.1 rfl (ct_X5_readItems hw (t := x + 33) (n := nt) hX hnt hs hz h g htx hI.2.2.2.2) kX7_97 (by decide) (by decide) rfl rfl (Nat.le_of_ble_eq_true rfl) (D (4, .invokevirtual 97, 3) (mg 2 rfl)) rfl (fun v3 H1 G2 hv3 => ?_)
  obtain ⟨⟨y4, rfl⟩, hwr⟩ := hv3
  show X k w _ 7 [some (.ref (wA w (x))), none] [.int (y4)] H1 G2
  refine X_istore_n (ls' := [some (.ref (wA w (x))), some (.int (y4))]) C 1 (D (7, .istore_n 1, 1) (mg 3 rfl)) rfl (Nat.le_of_ble_eq_true rfl) rfl ?_
  refine X_iload_n C 1 (D (8, .iload_n 1, 1) (mg 4 rfl)) rfl rfl ?_
  refine X_if_lt (tgt := 36) C (D (9, .ifCond .lt 27, 3) (mg 5 rfl)) (by decide) (fun q5 => ?_) (fun q5 => ?_)
  · skip
    refine X_iload_n C 1 (D (36, .iload_n 1, 1) (mg 16 rfl)) rfl rfl ?_
    exact X_iret C (D (37, .ireturn, 1) (mg 17 rfl)) ⟨⟨_, rfl⟩, rd_a hI hwr⟩
  · skip
    refine X_aload_n C 0 (D (12, .aload_n 0, 1) (mg 6 rfl)) rfl rfl ?_
    refine X_get (v := .ref (wA w (x + 1))) C (x) 0 (by omega) hsx rfl rfl (by decide) inX7 fX7_10 rfl (D (13, .getfield 10, 3) (mg 7 rfl)) rfl ?_
    refine X_get (v := .ref (wA w (x + 2))) C (x + 1) 0 (by omega) hT.2.1 rfl rfl (by decide) inX4 fX7_61 rfl (D (16, .getfield 61, 3) (mg 8 rfl)) rfl ?_
    refine X_aload_n C 0 (D (19, .aload_n 0, 1) (mg 9 rfl)) rfl rfl ?_
    refine X_get (v := .ref (wA w (x + 33))) C (x) 5 (by omega) hsx rfl rfl (by decide) inX7 fX7_41 rfl (D (20, .getfield 41, 3) (mg 10 rfl)) rfl ?_
    refine X_get (v := .ref (wA w (x + 35))) C (x + 33) 1 (by omega) hX.2.1 rfl rfl (by decide) inX5 fX7_100 rfl (D (23, .getfield 100, 3) (mg 11 rfl)) rfl ?_
    refine X_cV (As := [.ref (wA w (x + 35))]) (st := []) C (post := _) (x + 2) (by omega) hT.2.2.1.2.1 rfl (ct_X1_copyFrom hw (n := x + 2) hT.2.2.1 (o := x + 35) hX.2.2.2 H1 G2) kX7_101 (by decide) (by decide) rfl rfl (Nat.le_of_ble_eq_true rfl) (D (26, .invokevirtual 101, 3) (mg 12 rfl)) rfl (fun v8 H6 G7 hv8 => ?_)
    obtain ⟨rfl, rfl, rfl⟩ := hv8
    show X k w _ 29 [some (.ref (wA w (x))), some (.int (y4))] [] (ccH H1 (x + 2) (x + 35)) G2
    refine X_aload_n C 0 (D (29, .aload_n 0, 1) (mg 13 rfl)) rfl rfl ?_
    refine X_get (v := .ref (wA w (x + 1))) C (x) 0 (by omega) hsx rfl rfl (by decide) inX7 fX7_10 rfl (D (30, .getfield 10, 3) (mg 14 rfl)) rfl ?_
    refine X_cV (As := []) (st := []) C (post := _) (x + 1) (by omega) hT.2.1 rfl (ct_X4_dropNotes hw (t := x + 1) hT  (ccH H1 (x + 2) (x + 35)) G2) kX7_71 (by decide) (by decide) rfl rfl (Nat.le_of_ble_eq_true rfl) (D (33, .invokevirtual 71, 3) (mg 15 rfl)) rfl (fun v11 H9 G10 hv11 => ?_)
    obtain ⟨rfl, rfl, rfl⟩ := hv11
    show X k w _ 36 [some (.ref (wA w (x))), some (.int (y4))] [] (dnH (ccH H1 (x + 2) (x + 35)) (x + 1)) G2
    refine X_iload_n C 1 (D (36, .iload_n 1, 1) (mg 16 rfl)) rfl rfl ?_
    exact X_iret C (D (37, .ireturn, 1) (mg 17 rfl)) ⟨⟨_, rfl⟩, rd_b hI hwr⟩
