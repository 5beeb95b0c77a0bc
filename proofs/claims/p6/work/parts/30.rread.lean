/-! THE REFERENCE, 13: read: it ends, and nothing else changes -/
def mT (h : xI) (m n a0 : Nat) : Prop := ∃ a l, a0 ≤ a ∧ a + l ≤ n ∧ h m 12 = nI a ∧ h m 13 = nI l ∧ (h m 14 = 0 ∨ 1 ≤ l)
def pB (Q : Int32 → xI → Prop) : Option Value → xI → xJ → Prop := fun v h' _ => ∃ y : Int32, v = some (.int y) ∧ (y = 0 ∨ y = 1) ∧ Q y h'
def aOk (h : xI) (m : Nat) : Prop := h (m + 10) 0 = nI 0 ∧ h (m + 10) 1 = nI 0 ∧ h (m + 10) 2 = nI 0 ∧ ∃ c, c < 25 ∧ h (m + 10) 28 = nI c
def fL (m : Nat) (h h' : xI) : Prop := ∀ q i, (q ≠ m ∨ i < 12 ∨ 15 < i) → h' q i = h q i
def fI (m : Nat) (h h' : xI) : Prop := ∀ q i, (q ≠ m ∨ i < 12 ∨ 15 < i) → q ≠ m + 10 → q ≠ m + 11 → h' q i = h q i
def pW (m n a0 : Nat) (h h' : xI) : Prop := fI m h h' ∧ mT h' m n a0 ∧ aOk h' m
set_option maxHeartbeats 4000000 in
set_option maxRecDepth 100000 in
theorem ct_X8_isSmall {l : Launch} {w : Kw} (hw : wOk w) (x : Int32) (h : xI) (g : xJ)  : Ct l w yX8_isSmall cX8_isSmall 1 (some .boolean) 1 25 [.int (x)] h g (px (some (.int (if 97 ≤ x.toInt ∧ x.toInt ≤ 122 then 1 else 0))) h g) := by
  refine Ct_of (ls := [some (.int (x))]) (by decide) hw (Nat.le_of_ble_eq_true rfl) rfl (fun k hkl C => ?_)
  have C : Cx k w cX8_isSmall RX8 1 (some .boolean) 1 25 := C
  have D := dtX8_isSmall
  subst hkl
  refine X_iload_n C 0 (D (0, .iload_n 0, 1) (mg 0 rfl)) rfl rfl ?_
  refine X_i2l C (D (1, .i2l, 1) (mg 1 rfl)) ?_
  refine X_ldc2 C (D (2, .ldc2_w 242, 3) (mg 2 rfl)) vX8_242 ?_
  refine X_tl (y := lN (97)) rfl ?_
  refine X_ldc2 C (D (5, .ldc2_w 244, 3) (mg 3 rfl)) vX8_244 ?_
  refine X_tl (y := lN (122)) rfl ?_
  refine X_cS (As := [.long ((x).toInt64), .long (lN (97)), .long (lN (122))]) (st := []) C (post := _) (ct_X8_in hw ((x).toInt64) (lN (97)) (lN (122)) h g) kX8_54 (by decide) (by decide) rfl rfl (Nat.le_of_ble_eq_true rfl) (D (8, .invokestatic 54, 3) (mg 4 rfl)) rfl (fun v3 H1 G2 hv3 => ?_)
  obtain ⟨rfl, rfl, rfl⟩ := hv3
  show X k w _ 11 [some (.int (x))] [.int (if (lN (97)).toInt ≤ ((x).toInt64).toInt ∧ ((x).toInt64).toInt ≤ (lN (122)).toInt then 1 else 0)] h g
  exact X_zret C (D (11, .ireturn, 1) (mg 5 rfl)) (nb_ite _) ⟨pe (by rw [i6, pk_lT (n := 97) (by omega), pk_lT (n := 122) (by omega)]; omega), rfl, rfl⟩
set_option maxHeartbeats 4000000 in
set_option maxRecDepth 100000 in
theorem ct_X8_isFigure {l : Launch} {w : Kw} (hw : wOk w) (x : Int32) (h : xI) (g : xJ)  : Ct l w yX8_isFigure cX8_isFigure 1 (some .boolean) 1 25 [.int (x)] h g (px (some (.int (if 48 ≤ x.toInt ∧ x.toInt ≤ 57 then 1 else 0))) h g) := by
  refine Ct_of (ls := [some (.int (x))]) (by decide) hw (Nat.le_of_ble_eq_true rfl) rfl (fun k hkl C => ?_)
  have C : Cx k w cX8_isFigure RX8 1 (some .boolean) 1 25 := C
  have D := dtX8_isFigure
  subst hkl
  refine X_iload_n C 0 (D (0, .iload_n 0, 1) (mg 0 rfl)) rfl rfl ?_
  refine X_i2l C (D (1, .i2l, 1) (mg 1 rfl)) ?_
  refine X_ldc2 C (D (2, .ldc2_w 246, 3) (mg 2 rfl)) vX8_246 ?_
  refine X_tl (y := lN (48)) rfl ?_
  refine X_ldc2 C (D (5, .ldc2_w 248, 3) (mg 3 rfl)) vX8_248 ?_
  refine X_tl (y := lN (57)) rfl ?_
  refine X_cS (As := [.long ((x).toInt64), .long (lN (48)), .long (lN (57))]) (st := []) C (post := _) (ct_X8_in hw ((x).toInt64) (lN (48)) (lN (57)) h g) kX8_54 (by decide) (by decide) rfl rfl (Nat.le_of_ble_eq_true rfl) (D (8, .invokestatic 54, 3) (mg 4 rfl)) rfl (fun v3 H1 G2 hv3 => ?_)
  obtain ⟨rfl, rfl, rfl⟩ := hv3
  show X k w _ 11 [some (.int (x))] [.int (if (lN (48)).toInt ≤ ((x).toInt64).toInt ∧ ((x).toInt64).toInt ≤ (lN (57)).toInt then 1 else 0)] h g
  exact X_zret C (D (11, .ireturn, 1) (mg 5 rfl)) (nb_ite _) ⟨pe (by rw [i6, pk_lT (n := 48) (by omega), pk_lT (n := 57) (by omega)]; omega), rfl, rfl⟩
set_option maxHeartbeats 4000000 in
set_option maxRecDepth 100000 in
theorem ct_X8_lookAt {l : Launch} {w : Kw} (hw : wOk w) {m : Nat} (hM : shM w m) {n f0 : Nat} (hn : n ≤ 150) (hf : f0 ≤ n) (h : xI) (g : xJ) (hb : h m 11 = nI n) : Ct l w yX8_lookAt cX8_lookAt 5 none 2 45 [.ref (wA w (m)), .int (nI (f0))] h g (pQv (fun h' => fL m h h' ∧ mT h' m n f0)) := by
  refine Ct_of (ls := [some (.ref (wA w (m))), some (.int (nI (f0))), none, none, none]) (by decide) hw (Nat.le_of_ble_eq_true rfl) rfl (fun k hkl C => ?_)
  have C : Cx k w cX8_lookAt RX8 5 none 2 45 := C
  have D := dtX8_lookAt
  subst hkl
  have hM0 := hM
  obtain ⟨hm, hsm, hs1, hs2, hs3, hs4, hs5, hs6, hs7, hs8, hs9, hs10, hs11⟩ := hM
  have hM := hM0
  have jn114 : ∀ (hh : xI) (p1 : Nat) (tk : Int32) (cc : Int32), (f0 ≤ p1) → (p1 < n) → (hh m 12 = nI p1) → (∀ q i, (q ≠ m ∨ i < 12 ∨ 15 < i) → hh q i = h q i) → X k w (Zq k w (pQv (fun h' => fL m h h' ∧ mT h' m n f0))) 114 [some (.ref (wA w (m))), some (.int (nI (f0))), some (.int (cc)), none, none] [.int (tk), .ref (wA w (m))] hh g := by
    intro hh p1 tk cc hc114_0 hc114_1 hc114_2 hc114_3
    refine X_putI C (m) 14 tyX8 tyX8_ok nmX8 (by omega) hsm rfl rfl (by decide) inX8 fX8_256 rfl rfl (by decide +kernel) (D (114, .putfield 256, 3) (mg 60 rfl)) ?_
    refine X_aload_n C 0 (D (117, .aload_n 0, 1) (mg 61 rfl)) rfl rfl ?_
    refine X_iconst (v := nI (1)) C (D (118, .iconst 1, 1) (mg 62 rfl)) (by decide) ?_
    refine X_putI C (m) 13 tyX8 tyX8_ok nmX8 (by omega) hsm rfl rfl (by decide) inX8 fX8_253 rfl rfl (by decide +kernel) (D (119, .putfield 253, 3) (mg 63 rfl)) ?_
    refine X_aload_n C 0 (D (122, .aload_n 0, 1) (mg 64 rfl)) rfl rfl ?_
    refine X_get (v := .int ((u2 (u2 hh (m) 14 (tk)) (m) 13 (nI (1))) (m) 14)) C (m) 14 (by omega) hsm rfl rfl (by decide) inX8 fX8_256 rfl (D (123, .getfield 256, 3) (mg 65 rfl)) rfl ?_
    refine X_ti (y := tk) (((u2_i _ _ _ _ (by omega))).trans (u2_s _ _ _ _)) ?_
    refine X_iconst (v := nI (3)) C (D (126, .iconst 3, 1) (mg 66 rfl)) (by decide) ?_
    refine X_icmp_ge (tgt := 134) C (D (127, .if_icmp .ge 7, 3) (mg 67 rfl)) (by decide) (fun q1 => ?_) (fun q1 => ?_)
    · skip
      refine X_iconst (v := nI (0)) C (D (134, .iconst 0, 1) (mg 70 rfl)) (by decide) ?_
      refine X_istore_n (ls' := [some (.ref (wA w (m))), some (.int (nI (f0))), some (.int (cc)), some (.int (nI (0))), none]) C 3 (D (135, .istore_n 3, 1) (mg 71 rfl)) rfl (Nat.le_of_ble_eq_true rfl) rfl ?_
      have lp136 : ∀ (nn136 : Nat) (l1 : Nat) (e3 : Nat) (b3 : Int32) (hp136 : xI), (1 ≤ l1) → (p1 + l1 ≤ n) → (e3 ≤ 1) → (e3 = 0 → b3 = 0) → (hp136 m 12 = nI p1) → (hp136 m 13 = nI l1) → (∀ q i, (q ≠ m ∨ i < 12 ∨ 15 < i) → hp136 q i = h q i) → 2 * (n - (p1 + l1)) + e3 + 1 ≤ nn136 → X k w (Zq k w (pQv (fun h' => fL m h h' ∧ mT h' m n f0))) 136 [some (.ref (wA w (m))), some (.int (nI (f0))), some (.int (cc)), some (.int (b3)), none] [] hp136 g := by
        intro nn136
        induction nn136 with
        | zero => intro l1 e3 b3 hp136 hc136_0 hc136_1 hc136_2 hc136_3 hc136_4 hc136_5 hc136_6 hz; exact absurd hz (by omega)
        | succ nn136 ih136 =>
          intro l1 e3 b3 hp136 hc136_0 hc136_1 hc136_2 hc136_3 hc136_4 hc136_5 hc136_6 hz136
          refine X_iload_n C 3 (D (136, .iload_n 3, 1) (mg 72 rfl)) rfl rfl ?_
          refine X_if_eq (tgt := 215) C (D (137, .ifCond .eq 78, 3) (mg 73 rfl)) (by decide) (fun q2 => ?_) (fun q2 => ?_)
          · skip
            refine X_iconst (v := nI (0)) C (D (215, .iconst 0, 1) (mg 112 rfl)) (by decide) ?_
            refine X_istore (ls' := [some (.ref (wA w (m))), some (.int (nI (f0))), some (.int (cc)), some (.int (b3)), some (.int (nI (0)))]) C (D (216, .istore 4, 2) (mg 113 rfl)) (Nat.le_of_ble_eq_true rfl) rfl ?_
            have lp218 : ∀ (nn218 : Nat) (k4 : Nat) (hp218 : xI), (k4 ≤ 2) → (hp218 m 12 = nI p1) → (hp218 m 13 = nI l1) → (∀ q i, (q ≠ m ∨ i < 12 ∨ 15 < i) → hp218 q i = h q i) → 3 - k4 ≤ nn218 → X k w (Zq k w (pQv (fun h' => fL m h h' ∧ mT h' m n f0))) 218 [some (.ref (wA w (m))), some (.int (nI (f0))), some (.int (cc)), some (.int (b3)), some (.int (nI (k4)))] [] hp218 g := by
              intro nn218
              induction nn218 with
              | zero => intro k4 hp218 hc218_0 hc218_1 hc218_2 hc218_3 hz; exact absurd hz (by omega)
              | succ nn218 ih218 =>
                intro k4 hp218 hc218_0 hc218_1 hc218_2 hc218_3 hz218
                refine X_iload C (D (218, .iload 4, 2) (mg 114 rfl)) rfl ?_
                refine X_aload_n C 0 (D (220, .aload_n 0, 1) (mg 115 rfl)) rfl rfl ?_
                refine X_get (v := .int (hp218 (m) 13)) C (m) 13 (by omega) hsm rfl rfl (by decide) inX8 fX8_253 rfl (D (221, .getfield 253, 3) (mg 116 rfl)) rfl ?_
                refine X_ti (y := nI (l1)) (hc218_2) ?_
                refine X_icmp_ge (tgt := 274) C (D (224, .if_icmp .ge 50, 3) (mg 117 rfl)) (by decide) (fun q3 => ?_) (fun q3 => ?_)
                · skip
                  have q3 : (k4) ≥ (l1) := by have z := (nI_leI (a := (l1)) (b := (k4)) (by omega) (by omega)).mp q3; omega
                  refine X_aload_n C 0 (D (274, .aload_n 0, 1) (mg 143 rfl)) rfl rfl ?_
                  refine X_aload_n C 0 (D (275, .aload_n 0, 1) (mg 144 rfl)) rfl rfl ?_
                  refine X_get (v := .int (hp218 (m) 14)) C (m) 14 (by omega) hsm rfl rfl (by decide) inX8 fX8_256 rfl (D (276, .getfield 256, 3) (mg 145 rfl)) rfl ?_
                  refine X_iconst (v := nI (2)) C (D (279, .iconst 2, 1) (mg 146 rfl)) (by decide) ?_
                  refine X_icmp_ne (tgt := 295) C (D (280, .if_icmp .ne 15, 3) (mg 147 rfl)) (by decide) (fun q4 => ?_) (fun q4 => ?_)
                  · skip
                    refine X_aload_n C 0 (D (295, .aload_n 0, 1) (mg 154 rfl)) rfl rfl ?_
                    refine X_get (v := .int (hp218 (m) 14)) C (m) 14 (by omega) hsm rfl rfl (by decide) inX8 fX8_256 rfl (D (296, .getfield 256, 3) (mg 155 rfl)) rfl ?_
                    refine X_putI C (m) 14 tyX8 tyX8_ok nmX8 (by omega) hsm rfl rfl (by decide) inX8 fX8_256 rfl rfl (by decide +kernel) (D (299, .putfield 256, 3) (mg 156 rfl)) ?_
                    exact X_vret C (D (302, .return_, 1) (mg 157 rfl)) ⟨rfl, (fun q i z => by rw [u2_ne _ _ _ _ (by omega)]; exact hc218_3 q i z), p1, l1, by omega, by omega, (((u2_i _ _ _ _ (by omega))).trans hc218_1), (((u2_i _ _ _ _ (by omega))).trans hc218_2), Or.inr (by omega)⟩
                  · skip
                    refine X_aload_n C 0 (D (283, .aload_n 0, 1) (mg 148 rfl)) rfl rfl ?_
                    refine X_get (v := .int (hp218 (m) 13)) C (m) 13 (by omega) hsm rfl rfl (by decide) inX8 fX8_253 rfl (D (284, .getfield 253, 3) (mg 149 rfl)) rfl ?_
                    refine X_ti (y := nI (l1)) (hc218_2) ?_
                    refine X_iconst (v := nI (2)) C (D (287, .iconst 2, 1) (mg 150 rfl)) (by decide) ?_
                    refine X_icmp_le (tgt := 295) C (D (288, .if_icmp .le 7, 3) (mg 151 rfl)) (by decide) (fun q5 => ?_) (fun q5 => ?_)
                    · skip
                      have q5 : (l1) ≤ (2) := by have z := (nI_leI (a := (l1)) (b := (2)) (by omega) (by omega)).mp q5; omega
                      refine X_aload_n C 0 (D (295, .aload_n 0, 1) (mg 154 rfl)) rfl rfl ?_
                      refine X_get (v := .int (hp218 (m) 14)) C (m) 14 (by omega) hsm rfl rfl (by decide) inX8 fX8_256 rfl (D (296, .getfield 256, 3) (mg 155 rfl)) rfl ?_
                      refine X_putI C (m) 14 tyX8 tyX8_ok nmX8 (by omega) hsm rfl rfl (by decide) inX8 fX8_256 rfl rfl (by decide +kernel) (D (299, .putfield 256, 3) (mg 156 rfl)) ?_
                      exact X_vret C (D (302, .return_, 1) (mg 157 rfl)) ⟨rfl, (fun q i z => by rw [u2_ne _ _ _ _ (by omega)]; exact hc218_3 q i z), p1, l1, by omega, by omega, (((u2_i _ _ _ _ (by omega))).trans hc218_1), (((u2_i _ _ _ _ (by omega))).trans hc218_2), Or.inr (by omega)⟩
                    · skip
                      have q5 : (l1) > (2) := by have z : ¬ ((l1) ≤ (2)) := fun u => q5 ((nI_leI (a := (l1)) (b := (2)) (by omega) (by omega)).mpr u); omega
                      refine X_iconst (v := nI (4)) C (D (291, .iconst 4, 1) (mg 152 rfl)) (by decide) ?_
                      refine X_goto (tgt := 299) C (D (292, .goto 7, 3) (mg 153 rfl)) (by decide) ?_
                      refine X_putI C (m) 14 tyX8 tyX8_ok nmX8 (by omega) hsm rfl rfl (by decide) inX8 fX8_256 rfl rfl (by decide +kernel) (D (299, .putfield 256, 3) (mg 156 rfl)) ?_
                      exact X_vret C (D (302, .return_, 1) (mg 157 rfl)) ⟨rfl, (fun q i z => by rw [u2_ne _ _ _ _ (by omega)]; exact hc218_3 q i z), p1, l1, by omega, by omega, (((u2_i _ _ _ _ (by omega))).trans hc218_1), (((u2_i _ _ _ _ (by omega))).trans hc218_2), Or.inr (by omega)⟩
                · skip
                  have q3 : (k4) < (l1) := by have z : ¬ ((l1) ≤ (k4)) := fun u => q3 ((nI_leI (a := (l1)) (b := (k4)) (by omega) (by omega)).mpr u); omega
                  refine X_iload C (D (227, .iload 4, 2) (mg 118 rfl)) rfl ?_
                  refine X_iconst (v := nI (2)) C (D (229, .iconst 2, 1) (mg 119 rfl)) (by decide) ?_
                  refine X_icmp_ge (tgt := 274) C (D (230, .if_icmp .ge 44, 3) (mg 120 rfl)) (by decide) (fun q6 => ?_) (fun q6 => ?_)
                  · skip
                    have q6 : (k4) ≥ (2) := by have z := (nI_leI (a := (2)) (b := (k4)) (by omega) (by omega)).mp q6; omega
                    refine X_aload_n C 0 (D (274, .aload_n 0, 1) (mg 143 rfl)) rfl rfl ?_
                    refine X_aload_n C 0 (D (275, .aload_n 0, 1) (mg 144 rfl)) rfl rfl ?_
                    refine X_get (v := .int (hp218 (m) 14)) C (m) 14 (by omega) hsm rfl rfl (by decide) inX8 fX8_256 rfl (D (276, .getfield 256, 3) (mg 145 rfl)) rfl ?_
                    refine X_iconst (v := nI (2)) C (D (279, .iconst 2, 1) (mg 146 rfl)) (by decide) ?_
                    refine X_icmp_ne (tgt := 295) C (D (280, .if_icmp .ne 15, 3) (mg 147 rfl)) (by decide) (fun q7 => ?_) (fun q7 => ?_)
                    · skip
                      refine X_aload_n C 0 (D (295, .aload_n 0, 1) (mg 154 rfl)) rfl rfl ?_
                      refine X_get (v := .int (hp218 (m) 14)) C (m) 14 (by omega) hsm rfl rfl (by decide) inX8 fX8_256 rfl (D (296, .getfield 256, 3) (mg 155 rfl)) rfl ?_
                      refine X_putI C (m) 14 tyX8 tyX8_ok nmX8 (by omega) hsm rfl rfl (by decide) inX8 fX8_256 rfl rfl (by decide +kernel) (D (299, .putfield 256, 3) (mg 156 rfl)) ?_
                      exact X_vret C (D (302, .return_, 1) (mg 157 rfl)) ⟨rfl, (fun q i z => by rw [u2_ne _ _ _ _ (by omega)]; exact hc218_3 q i z), p1, l1, by omega, by omega, (((u2_i _ _ _ _ (by omega))).trans hc218_1), (((u2_i _ _ _ _ (by omega))).trans hc218_2), Or.inr (by omega)⟩
                    · skip
                      refine X_aload_n C 0 (D (283, .aload_n 0, 1) (mg 148 rfl)) rfl rfl ?_
                      refine X_get (v := .int (hp218 (m) 13)) C (m) 13 (by omega) hsm rfl rfl (by decide) inX8 fX8_253 rfl (D (284, .getfield 253, 3) (mg 149 rfl)) rfl ?_
                      refine X_ti (y := nI (l1)) (hc218_2) ?_
                      refine X_iconst (v := nI (2)) C (D (287, .iconst 2, 1) (mg 150 rfl)) (by decide) ?_
                      refine X_icmp_le (tgt := 295) C (D (288, .if_icmp .le 7, 3) (mg 151 rfl)) (by decide) (fun q8 => ?_) (fun q8 => ?_)
                      · skip
                        have q8 : (l1) ≤ (2) := by have z := (nI_leI (a := (l1)) (b := (2)) (by omega) (by omega)).mp q8; omega
                        refine X_aload_n C 0 (D (295, .aload_n 0, 1) (mg 154 rfl)) rfl rfl ?_
                        refine X_get (v := .int (hp218 (m) 14)) C (m) 14 (by omega) hsm rfl rfl (by decide) inX8 fX8_256 rfl (D (296, .getfield 256, 3) (mg 155 rfl)) rfl ?_
                        refine X_putI C (m) 14 tyX8 tyX8_ok nmX8 (by omega) hsm rfl rfl (by decide) inX8 fX8_256 rfl rfl (by decide +kernel) (D (299, .putfield 256, 3) (mg 156 rfl)) ?_
                        exact X_vret C (D (302, .return_, 1) (mg 157 rfl)) ⟨rfl, (fun q i z => by rw [u2_ne _ _ _ _ (by omega)]; exact hc218_3 q i z), p1, l1, by omega, by omega, (((u2_i _ _ _ _ (by omega))).trans hc218_1), (((u2_i _ _ _ _ (by omega))).trans hc218_2), Or.inr (by omega)⟩
                      · skip
                        have q8 : (l1) > (2) := by have z : ¬ ((l1) ≤ (2)) := fun u => q8 ((nI_leI (a := (l1)) (b := (2)) (by omega) (by omega)).mpr u); omega
                        refine X_iconst (v := nI (4)) C (D (291, .iconst 4, 1) (mg 152 rfl)) (by decide) ?_
                        refine X_goto (tgt := 299) C (D (292, .goto 7, 3) (mg 153 rfl)) (by decide) ?_
                        refine X_putI C (m) 14 tyX8 tyX8_ok nmX8 (by omega) hsm rfl rfl (by decide) inX8 fX8_256 rfl rfl (by decide +kernel) (D (299, .putfield 256, 3) (mg 156 rfl)) ?_
                        exact X_vret C (D (302, .return_, 1) (mg 157 rfl)) ⟨rfl, (fun q i z => by rw [u2_ne _ _ _ _ (by omega)]; exact hc218_3 q i z), p1, l1, by omega, by omega, (((u2_i _ _ _ _ (by omega))).trans hc218_1), (((u2_i _ _ _ _ (by omega))).trans hc218_2), Or.inr (by omega)⟩
                  · skip
                    have q6 : (k4) < (2) := by have z : ¬ ((2) ≤ (k4)) := fun u => q6 ((nI_leI (a := (2)) (b := (k4)) (by omega) (by omega)).mpr u); omega
                    refine X_aload_n C 0 (D (233, .aload_n 0, 1) (mg 121 rfl)) rfl rfl ?_
                    refine X_get (v := .int (hp218 (m) 14)) C (m) 14 (by omega) hsm rfl rfl (by decide) inX8 fX8_256 rfl (D (234, .getfield 256, 3) (mg 122 rfl)) rfl ?_
                    refine X_iconst (v := nI (2)) C (D (237, .iconst 2, 1) (mg 123 rfl)) (by decide) ?_
                    refine X_icmp_ne (tgt := 274) C (D (238, .if_icmp .ne 36, 3) (mg 124 rfl)) (by decide) (fun q9 => ?_) (fun q9 => ?_)
                    · skip
                      refine X_aload_n C 0 (D (274, .aload_n 0, 1) (mg 143 rfl)) rfl rfl ?_
                      refine X_aload_n C 0 (D (275, .aload_n 0, 1) (mg 144 rfl)) rfl rfl ?_
                      refine X_get (v := .int (hp218 (m) 14)) C (m) 14 (by omega) hsm rfl rfl (by decide) inX8 fX8_256 rfl (D (276, .getfield 256, 3) (mg 145 rfl)) rfl ?_
                      refine X_iconst (v := nI (2)) C (D (279, .iconst 2, 1) (mg 146 rfl)) (by decide) ?_
                      refine X_icmp_ne (tgt := 295) C (D (280, .if_icmp .ne 15, 3) (mg 147 rfl)) (by decide) (fun q10 => ?_) (fun q10 => ?_)
                      · skip
                        refine X_aload_n C 0 (D (295, .aload_n 0, 1) (mg 154 rfl)) rfl rfl ?_
                        refine X_get (v := .int (hp218 (m) 14)) C (m) 14 (by omega) hsm rfl rfl (by decide) inX8 fX8_256 rfl (D (296, .getfield 256, 3) (mg 155 rfl)) rfl ?_
                        refine X_putI C (m) 14 tyX8 tyX8_ok nmX8 (by omega) hsm rfl rfl (by decide) inX8 fX8_256 rfl rfl (by decide +kernel) (D (299, .putfield 256, 3) (mg 156 rfl)) ?_
                        exact X_vret C (D (302, .return_, 1) (mg 157 rfl)) ⟨rfl, (fun q i z => by rw [u2_ne _ _ _ _ (by omega)]; exact hc218_3 q i z), p1, l1, by omega, by omega, (((u2_i _ _ _ _ (by omega))).trans hc218_1), (((u2_i _ _ _ _ (by omega))).trans hc218_2), Or.inr (by omega)⟩
                      · skip
                        refine X_aload_n C 0 (D (283, .aload_n 0, 1) (mg 148 rfl)) rfl rfl ?_
                        refine X_get (v := .int (hp218 (m) 13)) C (m) 13 (by omega) hsm rfl rfl (by decide) inX8 fX8_253 rfl (D (284, .getfield 253, 3) (mg 149 rfl)) rfl ?_
                        refine X_ti (y := nI (l1)) (hc218_2) ?_
                        refine X_iconst (v := nI (2)) C (D (287, .iconst 2, 1) (mg 150 rfl)) (by decide) ?_
                        refine X_icmp_le (tgt := 295) C (D (288, .if_icmp .le 7, 3) (mg 151 rfl)) (by decide) (fun q11 => ?_) (fun q11 => ?_)
                        · skip
                          have q11 : (l1) ≤ (2) := by have z := (nI_leI (a := (l1)) (b := (2)) (by omega) (by omega)).mp q11; omega
                          refine X_aload_n C 0 (D (295, .aload_n 0, 1) (mg 154 rfl)) rfl rfl ?_
                          refine X_get (v := .int (hp218 (m) 14)) C (m) 14 (by omega) hsm rfl rfl (by decide) inX8 fX8_256 rfl (D (296, .getfield 256, 3) (mg 155 rfl)) rfl ?_
                          refine X_putI C (m) 14 tyX8 tyX8_ok nmX8 (by omega) hsm rfl rfl (by decide) inX8 fX8_256 rfl rfl (by decide +kernel) (D (299, .putfield 256, 3) (mg 156 rfl)) ?_
                          exact X_vret C (D (302, .return_, 1) (mg 157 rfl)) ⟨rfl, (fun q i z => by rw [u2_ne _ _ _ _ (by omega)]; exact hc218_3 q i z), p1, l1, by omega, by omega, (((u2_i _ _ _ _ (by omega))).trans hc218_1), (((u2_i _ _ _ _ (by omega))).trans hc218_2), Or.inr (by omega)⟩
                        · skip
                          have q11 : (l1) > (2) := by have z : ¬ ((l1) ≤ (2)) := fun u => q11 ((nI_leI (a := (l1)) (b := (2)) (by omega) (by omega)).mpr u); omega
                          refine X_iconst (v := nI (4)) C (D (291, .iconst 4, 1) (mg 152 rfl)) (by decide) ?_
                          refine X_goto (tgt := 299) C (D (292, .goto 7, 3) (mg 153 rfl)) (by decide) ?_
                          refine X_putI C (m) 14 tyX8 tyX8_ok nmX8 (by omega) hsm rfl rfl (by decide) inX8 fX8_256 rfl rfl (by decide +kernel) (D (299, .putfield 256, 3) (mg 156 rfl)) ?_
                          exact X_vret C (D (302, .return_, 1) (mg 157 rfl)) ⟨rfl, (fun q i z => by rw [u2_ne _ _ _ _ (by omega)]; exact hc218_3 q i z), p1, l1, by omega, by omega, (((u2_i _ _ _ _ (by omega))).trans hc218_1), (((u2_i _ _ _ _ (by omega))).trans hc218_2), Or.inr (by omega)⟩
                    · skip
                      refine X_aload_n C 0 (D (241, .aload_n 0, 1) (mg 125 rfl)) rfl rfl ?_
                      refine X_bipush (v := nI (10)) C (D (242, .bipush 10, 2) (mg 126 rfl)) (by decide) ?_
                      refine X_aload_n C 0 (D (244, .aload_n 0, 1) (mg 127 rfl)) rfl rfl ?_
                      refine X_get (v := .int (hp218 (m) 15)) C (m) 15 (by omega) hsm rfl rfl (by decide) inX8 fX8_259 rfl (D (245, .getfield 259, 3) (mg 128 rfl)) rfl ?_
                      refine X_imul C (D (248, .imul, 1) (mg 129 rfl)) ?_
                      refine X_aload_n C 0 (D (249, .aload_n 0, 1) (mg 130 rfl)) rfl rfl ?_
                      refine X_get (v := .ref (wA w (m + 9))) C (m) 10 (by omega) hsm rfl rfl (by decide) inX8 fX8_39 rfl (D (250, .getfield 39, 3) (mg 131 rfl)) rfl ?_
                      refine X_aload_n C 0 (D (253, .aload_n 0, 1) (mg 132 rfl)) rfl rfl ?_
                      refine X_get (v := .int (hp218 (m) 12)) C (m) 12 (by omega) hsm rfl rfl (by decide) inX8 fX8_250 rfl (D (254, .getfield 250, 3) (mg 133 rfl)) rfl ?_
                      refine X_ti (y := nI (p1)) (hc218_1) ?_
                      refine X_iload C (D (257, .iload 4, 2) (mg 134 rfl)) rfl ?_
                      refine X_iadd C (D (259, .iadd, 1) (mg 135 rfl)) ?_
                      refine X_ti (y := nI (p1 + k4)) (nI_add (p1) (k4)) ?_
                      refine X_iald (v := hp218 (m + 9) (p1 + k4)) C (m + 9) (by omega) hs9 (vp_in_nI (by omega) (by omega)) (D (260, .iaload, 1) (mg 136 rfl)) (by rw [nI_clamp (by omega)]) ?_
                      refine X_iadd C (D (261, .iadd, 1) (mg 137 rfl)) ?_
                      refine X_bipush (v := nI (48)) C (D (262, .bipush 48, 2) (mg 138 rfl)) (by decide) ?_
                      refine X_isub C (D (264, .isub, 1) (mg 139 rfl)) ?_
                      refine X_putI C (m) 15 tyX8 tyX8_ok nmX8 (by omega) hsm rfl rfl (by decide) inX8 fX8_259 rfl rfl (by decide +kernel) (D (265, .putfield 259, 3) (mg 140 rfl)) ?_
                      refine X_iinc (v := nI (k4 + 1)) (ls' := [some (.ref (wA w (m))), some (.int (nI (f0))), some (.int (cc)), some (.int (b3)), some (.int (nI (k4 + 1)))]) C (D (268, .iinc 4 1, 3) (mg 141 rfl)) rfl (nI_add (k4) 1) rfl ?_
                      refine X_goto (tgt := 218) C (D (271, .goto (-53), 3) (mg 142 rfl)) (by decide) ?_
                      refine X_eq (ls' := [some (.ref (wA w (m))), some (.int (nI (f0))), some (.int (cc)), some (.int (b3)), some (.int (nI (k4 + 1)))]) (st' := []) (h' := (u2 hp218 (m) 15 ((((nI (10)) * (hp218 (m) 15)) + (hp218 (m + 9) (p1 + k4))) - (nI (48))))) (g' := g) rfl rfl rfl rfl ?_
                      exact ih218 (k4 + 1) ((u2 hp218 (m) 15 ((((nI (10)) * (hp218 (m) 15)) + (hp218 (m + 9) (p1 + k4))) - (nI (48))))) (by omega) (((u2_i _ _ _ _ (by omega))).trans hc218_1) (((u2_i _ _ _ _ (by omega))).trans hc218_2) (fun q i z => by rw [u2_ne _ _ _ _ (by omega)]; exact hc218_3 q i z) (by omega)
            refine X_eq (ls' := [some (.ref (wA w (m))), some (.int (nI (f0))), some (.int (cc)), some (.int (b3)), some (.int (nI (0)))]) (st' := []) (h' := hp136) (g' := g) rfl rfl rfl rfl ?_
            exact lp218 _ (0) (hp136) (by omega) (hc136_4) (hc136_5) (fun q i z => by skip; exact hc136_6 q i z) (Nat.le_refl _)
          · skip
            have he3 : ¬ e3 = 0 := fun z => (by assumption : ¬ b3 = 0) (hc136_3 z)
            refine X_aload_n C 0 (D (140, .aload_n 0, 1) (mg 74 rfl)) rfl rfl ?_
            refine X_get (v := .int (hp136 (m) 12)) C (m) 12 (by omega) hsm rfl rfl (by decide) inX8 fX8_250 rfl (D (141, .getfield 250, 3) (mg 75 rfl)) rfl ?_
            refine X_ti (y := nI (p1)) (hc136_4) ?_
            refine X_aload_n C 0 (D (144, .aload_n 0, 1) (mg 76 rfl)) rfl rfl ?_
            refine X_get (v := .int (hp136 (m) 13)) C (m) 13 (by omega) hsm rfl rfl (by decide) inX8 fX8_253 rfl (D (145, .getfield 253, 3) (mg 77 rfl)) rfl ?_
            refine X_ti (y := nI (l1)) (hc136_5) ?_
            refine X_iadd C (D (148, .iadd, 1) (mg 78 rfl)) ?_
            refine X_ti (y := nI (p1 + l1)) (nI_add (p1) (l1)) ?_
            refine X_aload_n C 0 (D (149, .aload_n 0, 1) (mg 79 rfl)) rfl rfl ?_
            refine X_get (v := .int (hp136 (m) 11)) C (m) 11 (by omega) hsm rfl rfl (by decide) inX8 fX8_238 rfl (D (150, .getfield 238, 3) (mg 80 rfl)) rfl ?_
            refine X_ti (y := nI (n)) (((hc136_6 _ _ (by omega)).trans hb)) ?_
            refine X_icmp_ge (tgt := 215) C (D (153, .if_icmp .ge 62, 3) (mg 81 rfl)) (by decide) (fun q12 => ?_) (fun q12 => ?_)
            · skip
              have q12 : (p1 + l1) ≥ (n) := by have z := (nI_leI (a := (n)) (b := (p1 + l1)) (by omega) (by omega)).mp q12; omega
              refine X_iconst (v := nI (0)) C (D (215, .iconst 0, 1) (mg 112 rfl)) (by decide) ?_
              refine X_istore (ls' := [some (.ref (wA w (m))), some (.int (nI (f0))), some (.int (cc)), some (.int (b3)), some (.int (nI (0)))]) C (D (216, .istore 4, 2) (mg 113 rfl)) (Nat.le_of_ble_eq_true rfl) rfl ?_
              have lp218 : ∀ (nn218 : Nat) (k4 : Nat) (hp218 : xI), (k4 ≤ 2) → (hp218 m 12 = nI p1) → (hp218 m 13 = nI l1) → (∀ q i, (q ≠ m ∨ i < 12 ∨ 15 < i) → hp218 q i = h q i) → 3 - k4 ≤ nn218 → X k w (Zq k w (pQv (fun h' => fL m h h' ∧ mT h' m n f0))) 218 [some (.ref (wA w (m))), some (.int (nI (f0))), some (.int (cc)), some (.int (b3)), some (.int (nI (k4)))] [] hp218 g := by
                intro nn218
                induction nn218 with
                | zero => intro k4 hp218 hc218_0 hc218_1 hc218_2 hc218_3 hz; exact absurd hz (by omega)
                | succ nn218 ih218 =>
                  intro k4 hp218 hc218_0 hc218_1 hc218_2 hc218_3 hz218
                  refine X_iload C (D (218, .iload 4, 2) (mg 114 rfl)) rfl ?_
                  refine X_aload_n C 0 (D (220, .aload_n 0, 1) (mg 115 rfl)) rfl rfl ?_
                  refine X_get (v := .int (hp218 (m) 13)) C (m) 13 (by omega) hsm rfl rfl (by decide) inX8 fX8_253 rfl (D (221, .getfield 253, 3) (mg 116 rfl)) rfl ?_
                  refine X_ti (y := nI (l1)) (hc218_2) ?_
                  refine X_icmp_ge (tgt := 274) C (D (224, .if_icmp .ge 50, 3) (mg 117 rfl)) (by decide) (fun q13 => ?_) (fun q13 => ?_)
                  · skip
                    have q13 : (k4) ≥ (l1) := by have z := (nI_leI (a := (l1)) (b := (k4)) (by omega) (by omega)).mp q13; omega
                    refine X_aload_n C 0 (D (274, .aload_n 0, 1) (mg 143 rfl)) rfl rfl ?_
                    refine X_aload_n C 0 (D (275, .aload_n 0, 1) (mg 144 rfl)) rfl rfl ?_
                    refine X_get (v := .int (hp218 (m) 14)) C (m) 14 (by omega) hsm rfl rfl (by decide) inX8 fX8_256 rfl (D (276, .getfield 256, 3) (mg 145 rfl)) rfl ?_
                    refine X_iconst (v := nI (2)) C (D (279, .iconst 2, 1) (mg 146 rfl)) (by decide) ?_
                    refine X_icmp_ne (tgt := 295) C (D (280, .if_icmp .ne 15, 3) (mg 147 rfl)) (by decide) (fun q14 => ?_) (fun q14 => ?_)
                    · skip
                      refine X_aload_n C 0 (D (295, .aload_n 0, 1) (mg 154 rfl)) rfl rfl ?_
                      refine X_get (v := .int (hp218 (m) 14)) C (m) 14 (by omega) hsm rfl rfl (by decide) inX8 fX8_256 rfl (D (296, .getfield 256, 3) (mg 155 rfl)) rfl ?_
                      refine X_putI C (m) 14 tyX8 tyX8_ok nmX8 (by omega) hsm rfl rfl (by decide) inX8 fX8_256 rfl rfl (by decide +kernel) (D (299, .putfield 256, 3) (mg 156 rfl)) ?_
                      exact X_vret C (D (302, .return_, 1) (mg 157 rfl)) ⟨rfl, (fun q i z => by rw [u2_ne _ _ _ _ (by omega)]; exact hc218_3 q i z), p1, l1, by omega, by omega, (((u2_i _ _ _ _ (by omega))).trans hc218_1), (((u2_i _ _ _ _ (by omega))).trans hc218_2), Or.inr (by omega)⟩
                    · skip
                      refine X_aload_n C 0 (D (283, .aload_n 0, 1) (mg 148 rfl)) rfl rfl ?_
                      refine X_get (v := .int (hp218 (m) 13)) C (m) 13 (by omega) hsm rfl rfl (by decide) inX8 fX8_253 rfl (D (284, .getfield 253, 3) (mg 149 rfl)) rfl ?_
                      refine X_ti (y := nI (l1)) (hc218_2) ?_
                      refine X_iconst (v := nI (2)) C (D (287, .iconst 2, 1) (mg 150 rfl)) (by decide) ?_
                      refine X_icmp_le (tgt := 295) C (D (288, .if_icmp .le 7, 3) (mg 151 rfl)) (by decide) (fun q15 => ?_) (fun q15 => ?_)
                      · skip
                        have q15 : (l1) ≤ (2) := by have z := (nI_leI (a := (l1)) (b := (2)) (by omega) (by omega)).mp q15; omega
                        refine X_aload_n C 0 (D (295, .aload_n 0, 1) (mg 154 rfl)) rfl rfl ?_
                        refine X_get (v := .int (hp218 (m) 14)) C (m) 14 (by omega) hsm rfl rfl (by decide) inX8 fX8_256 rfl (D (296, .getfield 256, 3) (mg 155 rfl)) rfl ?_
                        refine X_putI C (m) 14 tyX8 tyX8_ok nmX8 (by omega) hsm rfl rfl (by decide) inX8 fX8_256 rfl rfl (by decide +kernel) (D (299, .putfield 256, 3) (mg 156 rfl)) ?_
                        exact X_vret C (D (302, .return_, 1) (mg 157 rfl)) ⟨rfl, (fun q i z => by rw [u2_ne _ _ _ _ (by omega)]; exact hc218_3 q i z), p1, l1, by omega, by omega, (((u2_i _ _ _ _ (by omega))).trans hc218_1), (((u2_i _ _ _ _ (by omega))).trans hc218_2), Or.inr (by omega)⟩
                      · skip
                        have q15 : (l1) > (2) := by have z : ¬ ((l1) ≤ (2)) := fun u => q15 ((nI_leI (a := (l1)) (b := (2)) (by omega) (by omega)).mpr u); omega
                        refine X_iconst (v := nI (4)) C (D (291, .iconst 4, 1) (mg 152 rfl)) (by decide) ?_
                        refine X_goto (tgt := 299) C (D (292, .goto 7, 3) (mg 153 rfl)) (by decide) ?_
                        refine X_putI C (m) 14 tyX8 tyX8_ok nmX8 (by omega) hsm rfl rfl (by decide) inX8 fX8_256 rfl rfl (by decide +kernel) (D (299, .putfield 256, 3) (mg 156 rfl)) ?_
                        exact X_vret C (D (302, .return_, 1) (mg 157 rfl)) ⟨rfl, (fun q i z => by rw [u2_ne _ _ _ _ (by omega)]; exact hc218_3 q i z), p1, l1, by omega, by omega, (((u2_i _ _ _ _ (by omega))).trans hc218_1), (((u2_i _ _ _ _ (by omega))).trans hc218_2), Or.inr (by omega)⟩
                  · skip
                    have q13 : (k4) < (l1) := by have z : ¬ ((l1) ≤ (k4)) := fun u => q13 ((nI_leI (a := (l1)) (b := (k4)) (by omega) (by omega)).mpr u); omega
                    refine X_iload C (D (227, .iload 4, 2) (mg 118 rfl)) rfl ?_
                    refine X_iconst (v := nI (2)) C (D (229, .iconst 2, 1) (mg 119 rfl)) (by decide) ?_
                    refine X_icmp_ge (tgt := 274) C (D (230, .if_icmp .ge 44, 3) (mg 120 rfl)) (by decide) (fun q16 => ?_) (fun q16 => ?_)
                    · skip
                      have q16 : (k4) ≥ (2) := by have z := (nI_leI (a := (2)) (b := (k4)) (by omega) (by omega)).mp q16; omega
                      refine X_aload_n C 0 (D (274, .aload_n 0, 1) (mg 143 rfl)) rfl rfl ?_
                      refine X_aload_n C 0 (D (275, .aload_n 0, 1) (mg 144 rfl)) rfl rfl ?_
                      refine X_get (v := .int (hp218 (m) 14)) C (m) 14 (by omega) hsm rfl rfl (by decide) inX8 fX8_256 rfl (D (276, .getfield 256, 3) (mg 145 rfl)) rfl ?_
                      refine X_iconst (v := nI (2)) C (D (279, .iconst 2, 1) (mg 146 rfl)) (by decide) ?_
                      refine X_icmp_ne (tgt := 295) C (D (280, .if_icmp .ne 15, 3) (mg 147 rfl)) (by decide) (fun q17 => ?_) (fun q17 => ?_)
                      · skip
                        refine X_aload_n C 0 (D (295, .aload_n 0, 1) (mg 154 rfl)) rfl rfl ?_
                        refine X_get (v := .int (hp218 (m) 14)) C (m) 14 (by omega) hsm rfl rfl (by decide) inX8 fX8_256 rfl (D (296, .getfield 256, 3) (mg 155 rfl)) rfl ?_
                        refine X_putI C (m) 14 tyX8 tyX8_ok nmX8 (by omega) hsm rfl rfl (by decide) inX8 fX8_256 rfl rfl (by decide +kernel) (D (299, .putfield 256, 3) (mg 156 rfl)) ?_
                        exact X_vret C (D (302, .return_, 1) (mg 157 rfl)) ⟨rfl, (fun q i z => by rw [u2_ne _ _ _ _ (by omega)]; exact hc218_3 q i z), p1, l1, by omega, by omega, (((u2_i _ _ _ _ (by omega))).trans hc218_1), (((u2_i _ _ _ _ (by omega))).trans hc218_2), Or.inr (by omega)⟩
                      · skip
                        refine X_aload_n C 0 (D (283, .aload_n 0, 1) (mg 148 rfl)) rfl rfl ?_
                        refine X_get (v := .int (hp218 (m) 13)) C (m) 13 (by omega) hsm rfl rfl (by decide) inX8 fX8_253 rfl (D (284, .getfield 253, 3) (mg 149 rfl)) rfl ?_
                        refine X_ti (y := nI (l1)) (hc218_2) ?_
                        refine X_iconst (v := nI (2)) C (D (287, .iconst 2, 1) (mg 150 rfl)) (by decide) ?_
                        refine X_icmp_le (tgt := 295) C (D (288, .if_icmp .le 7, 3) (mg 151 rfl)) (by decide) (fun q18 => ?_) (fun q18 => ?_)
                        · skip
                          have q18 : (l1) ≤ (2) := by have z := (nI_leI (a := (l1)) (b := (2)) (by omega) (by omega)).mp q18; omega
                          refine X_aload_n C 0 (D (295, .aload_n 0, 1) (mg 154 rfl)) rfl rfl ?_
                          refine X_get (v := .int (hp218 (m) 14)) C (m) 14 (by omega) hsm rfl rfl (by decide) inX8 fX8_256 rfl (D (296, .getfield 256, 3) (mg 155 rfl)) rfl ?_
                          refine X_putI C (m) 14 tyX8 tyX8_ok nmX8 (by omega) hsm rfl rfl (by decide) inX8 fX8_256 rfl rfl (by decide +kernel) (D (299, .putfield 256, 3) (mg 156 rfl)) ?_
                          exact X_vret C (D (302, .return_, 1) (mg 157 rfl)) ⟨rfl, (fun q i z => by rw [u2_ne _ _ _ _ (by omega)]; exact hc218_3 q i z), p1, l1, by omega, by omega, (((u2_i _ _ _ _ (by omega))).trans hc218_1), (((u2_i _ _ _ _ (by omega))).trans hc218_2), Or.inr (by omega)⟩
                        · skip
                          have q18 : (l1) > (2) := by have z : ¬ ((l1) ≤ (2)) := fun u => q18 ((nI_leI (a := (l1)) (b := (2)) (by omega) (by omega)).mpr u); omega
                          refine X_iconst (v := nI (4)) C (D (291, .iconst 4, 1) (mg 152 rfl)) (by decide) ?_
                          refine X_goto (tgt := 299) C (D (292, .goto 7, 3) (mg 153 rfl)) (by decide) ?_
                          refine X_putI C (m) 14 tyX8 tyX8_ok nmX8 (by omega) hsm rfl rfl (by decide) inX8 fX8_256 rfl rfl (by decide +kernel) (D (299, .putfield 256, 3) (mg 156 rfl)) ?_
                          exact X_vret C (D (302, .return_, 1) (mg 157 rfl)) ⟨rfl, (fun q i z => by rw [u2_ne _ _ _ _ (by omega)]; exact hc218_3 q i z), p1, l1, by omega, by omega, (((u2_i _ _ _ _ (by omega))).trans hc218_1), (((u2_i _ _ _ _ (by omega))).trans hc218_2), Or.inr (by omega)⟩
                    · skip
                      have q16 : (k4) < (2) := by have z : ¬ ((2) ≤ (k4)) := fun u => q16 ((nI_leI (a := (2)) (b := (k4)) (by omega) (by omega)).mpr u); omega
                      refine X_aload_n C 0 (D (233, .aload_n 0, 1) (mg 121 rfl)) rfl rfl ?_
                      refine X_get (v := .int (hp218 (m) 14)) C (m) 14 (by omega) hsm rfl rfl (by decide) inX8 fX8_256 rfl (D (234, .getfield 256, 3) (mg 122 rfl)) rfl ?_
                      refine X_iconst (v := nI (2)) C (D (237, .iconst 2, 1) (mg 123 rfl)) (by decide) ?_
                      refine X_icmp_ne (tgt := 274) C (D (238, .if_icmp .ne 36, 3) (mg 124 rfl)) (by decide) (fun q19 => ?_) (fun q19 => ?_)
                      · skip
                        refine X_aload_n C 0 (D (274, .aload_n 0, 1) (mg 143 rfl)) rfl rfl ?_
                        refine X_aload_n C 0 (D (275, .aload_n 0, 1) (mg 144 rfl)) rfl rfl ?_
                        refine X_get (v := .int (hp218 (m) 14)) C (m) 14 (by omega) hsm rfl rfl (by decide) inX8 fX8_256 rfl (D (276, .getfield 256, 3) (mg 145 rfl)) rfl ?_
                        refine X_iconst (v := nI (2)) C (D (279, .iconst 2, 1) (mg 146 rfl)) (by decide) ?_
                        refine X_icmp_ne (tgt := 295) C (D (280, .if_icmp .ne 15, 3) (mg 147 rfl)) (by decide) (fun q20 => ?_) (fun q20 => ?_)
                        · skip
                          refine X_aload_n C 0 (D (295, .aload_n 0, 1) (mg 154 rfl)) rfl rfl ?_
                          refine X_get (v := .int (hp218 (m) 14)) C (m) 14 (by omega) hsm rfl rfl (by decide) inX8 fX8_256 rfl (D (296, .getfield 256, 3) (mg 155 rfl)) rfl ?_
                          refine X_putI C (m) 14 tyX8 tyX8_ok nmX8 (by omega) hsm rfl rfl (by decide) inX8 fX8_256 rfl rfl (by decide +kernel) (D (299, .putfield 256, 3) (mg 156 rfl)) ?_
                          exact X_vret C (D (302, .return_, 1) (mg 157 rfl)) ⟨rfl, (fun q i z => by rw [u2_ne _ _ _ _ (by omega)]; exact hc218_3 q i z), p1, l1, by omega, by omega, (((u2_i _ _ _ _ (by omega))).trans hc218_1), (((u2_i _ _ _ _ (by omega))).trans hc218_2), Or.inr (by omega)⟩
                        · skip
                          refine X_aload_n C 0 (D (283, .aload_n 0, 1) (mg 148 rfl)) rfl rfl ?_
                          refine X_get (v := .int (hp218 (m) 13)) C (m) 13 (by omega) hsm rfl rfl (by decide) inX8 fX8_253 rfl (D (284, .getfield 253, 3) (mg 149 rfl)) rfl ?_
                          refine X_ti (y := nI (l1)) (hc218_2) ?_
                          refine X_iconst (v := nI (2)) C (D (287, .iconst 2, 1) (mg 150 rfl)) (by decide) ?_
                          refine X_icmp_le (tgt := 295) C (D (288, .if_icmp .le 7, 3) (mg 151 rfl)) (by decide) (fun q21 => ?_) (fun q21 => ?_)
                          · skip
                            have q21 : (l1) ≤ (2) := by have z := (nI_leI (a := (l1)) (b := (2)) (by omega) (by omega)).mp q21; omega
                            refine X_aload_n C 0 (D (295, .aload_n 0, 1) (mg 154 rfl)) rfl rfl ?_
                            refine X_get (v := .int (hp218 (m) 14)) C (m) 14 (by omega) hsm rfl rfl (by decide) inX8 fX8_256 rfl (D (296, .getfield 256, 3) (mg 155 rfl)) rfl ?_
                            refine X_putI C (m) 14 tyX8 tyX8_ok nmX8 (by omega) hsm rfl rfl (by decide) inX8 fX8_256 rfl rfl (by decide +kernel) (D (299, .putfield 256, 3) (mg 156 rfl)) ?_
                            exact X_vret C (D (302, .return_, 1) (mg 157 rfl)) ⟨rfl, (fun q i z => by rw [u2_ne _ _ _ _ (by omega)]; exact hc218_3 q i z), p1, l1, by omega, by omega, (((u2_i _ _ _ _ (by omega))).trans hc218_1), (((u2_i _ _ _ _ (by omega))).trans hc218_2), Or.inr (by omega)⟩
                          · skip
                            have q21 : (l1) > (2) := by have z : ¬ ((l1) ≤ (2)) := fun u => q21 ((nI_leI (a := (l1)) (b := (2)) (by omega) (by omega)).mpr u); omega
                            refine X_iconst (v := nI (4)) C (D (291, .iconst 4, 1) (mg 152 rfl)) (by decide) ?_
                            refine X_goto (tgt := 299) C (D (292, .goto 7, 3) (mg 153 rfl)) (by decide) ?_
                            refine X_putI C (m) 14 tyX8 tyX8_ok nmX8 (by omega) hsm rfl rfl (by decide) inX8 fX8_256 rfl rfl (by decide +kernel) (D (299, .putfield 256, 3) (mg 156 rfl)) ?_
                            exact X_vret C (D (302, .return_, 1) (mg 157 rfl)) ⟨rfl, (fun q i z => by rw [u2_ne _ _ _ _ (by omega)]; exact hc218_3 q i z), p1, l1, by omega, by omega, (((u2_i _ _ _ _ (by omega))).trans hc218_1), (((u2_i _ _ _ _ (by omega))).trans hc218_2), Or.inr (by omega)⟩
                      · skip
                        refine X_aload_n C 0 (D (241, .aload_n 0, 1) (mg 125 rfl)) rfl rfl ?_
                        refine X_bipush (v := nI (10)) C (D (242, .bipush 10, 2) (mg 126 rfl)) (by decide) ?_
                        refine X_aload_n C 0 (D (244, .aload_n 0, 1) (mg 127 rfl)) rfl rfl ?_
                        refine X_get (v := .int (hp218 (m) 15)) C (m) 15 (by omega) hsm rfl rfl (by decide) inX8 fX8_259 rfl (D (245, .getfield 259, 3) (mg 128 rfl)) rfl ?_
                        refine X_imul C (D (248, .imul, 1) (mg 129 rfl)) ?_
                        refine X_aload_n C 0 (D (249, .aload_n 0, 1) (mg 130 rfl)) rfl rfl ?_
                        refine X_get (v := .ref (wA w (m + 9))) C (m) 10 (by omega) hsm rfl rfl (by decide) inX8 fX8_39 rfl (D (250, .getfield 39, 3) (mg 131 rfl)) rfl ?_
                        refine X_aload_n C 0 (D (253, .aload_n 0, 1) (mg 132 rfl)) rfl rfl ?_
                        refine X_get (v := .int (hp218 (m) 12)) C (m) 12 (by omega) hsm rfl rfl (by decide) inX8 fX8_250 rfl (D (254, .getfield 250, 3) (mg 133 rfl)) rfl ?_
                        refine X_ti (y := nI (p1)) (hc218_1) ?_
                        refine X_iload C (D (257, .iload 4, 2) (mg 134 rfl)) rfl ?_
                        refine X_iadd C (D (259, .iadd, 1) (mg 135 rfl)) ?_
                        refine X_ti (y := nI (p1 + k4)) (nI_add (p1) (k4)) ?_
                        refine X_iald (v := hp218 (m + 9) (p1 + k4)) C (m + 9) (by omega) hs9 (vp_in_nI (by omega) (by omega)) (D (260, .iaload, 1) (mg 136 rfl)) (by rw [nI_clamp (by omega)]) ?_
                        refine X_iadd C (D (261, .iadd, 1) (mg 137 rfl)) ?_
                        refine X_bipush (v := nI (48)) C (D (262, .bipush 48, 2) (mg 138 rfl)) (by decide) ?_
                        refine X_isub C (D (264, .isub, 1) (mg 139 rfl)) ?_
                        refine X_putI C (m) 15 tyX8 tyX8_ok nmX8 (by omega) hsm rfl rfl (by decide) inX8 fX8_259 rfl rfl (by decide +kernel) (D (265, .putfield 259, 3) (mg 140 rfl)) ?_
                        refine X_iinc (v := nI (k4 + 1)) (ls' := [some (.ref (wA w (m))), some (.int (nI (f0))), some (.int (cc)), some (.int (b3)), some (.int (nI (k4 + 1)))]) C (D (268, .iinc 4 1, 3) (mg 141 rfl)) rfl (nI_add (k4) 1) rfl ?_
                        refine X_goto (tgt := 218) C (D (271, .goto (-53), 3) (mg 142 rfl)) (by decide) ?_
                        refine X_eq (ls' := [some (.ref (wA w (m))), some (.int (nI (f0))), some (.int (cc)), some (.int (b3)), some (.int (nI (k4 + 1)))]) (st' := []) (h' := (u2 hp218 (m) 15 ((((nI (10)) * (hp218 (m) 15)) + (hp218 (m + 9) (p1 + k4))) - (nI (48))))) (g' := g) rfl rfl rfl rfl ?_
                        exact ih218 (k4 + 1) ((u2 hp218 (m) 15 ((((nI (10)) * (hp218 (m) 15)) + (hp218 (m + 9) (p1 + k4))) - (nI (48))))) (by omega) (((u2_i _ _ _ _ (by omega))).trans hc218_1) (((u2_i _ _ _ _ (by omega))).trans hc218_2) (fun q i z => by rw [u2_ne _ _ _ _ (by omega)]; exact hc218_3 q i z) (by omega)
              refine X_eq (ls' := [some (.ref (wA w (m))), some (.int (nI (f0))), some (.int (cc)), some (.int (b3)), some (.int (nI (0)))]) (st' := []) (h' := hp136) (g' := g) rfl rfl rfl rfl ?_
              exact lp218 _ (0) (hp136) (by omega) (hc136_4) (hc136_5) (fun q i z => by skip; exact hc136_6 q i z) (Nat.le_refl _)
            · skip
              have q12 : (p1 + l1) < (n) := by have z : ¬ ((n) ≤ (p1 + l1)) := fun u => q12 ((nI_leI (a := (n)) (b := (p1 + l1)) (by omega) (by omega)).mpr u); omega
              refine X_aload_n C 0 (D (156, .aload_n 0, 1) (mg 82 rfl)) rfl rfl ?_
              refine X_get (v := .ref (wA w (m + 9))) C (m) 10 (by omega) hsm rfl rfl (by decide) inX8 fX8_39 rfl (D (157, .getfield 39, 3) (mg 83 rfl)) rfl ?_
              refine X_aload_n C 0 (D (160, .aload_n 0, 1) (mg 84 rfl)) rfl rfl ?_
              refine X_get (v := .int (hp136 (m) 12)) C (m) 12 (by omega) hsm rfl rfl (by decide) inX8 fX8_250 rfl (D (161, .getfield 250, 3) (mg 85 rfl)) rfl ?_
              refine X_ti (y := nI (p1)) (hc136_4) ?_
              refine X_aload_n C 0 (D (164, .aload_n 0, 1) (mg 86 rfl)) rfl rfl ?_
              refine X_get (v := .int (hp136 (m) 13)) C (m) 13 (by omega) hsm rfl rfl (by decide) inX8 fX8_253 rfl (D (165, .getfield 253, 3) (mg 87 rfl)) rfl ?_
              refine X_ti (y := nI (l1)) (hc136_5) ?_
              refine X_iadd C (D (168, .iadd, 1) (mg 88 rfl)) ?_
              refine X_ti (y := nI (p1 + l1)) (nI_add (p1) (l1)) ?_
              refine X_iald (v := hp136 (m + 9) (p1 + l1)) C (m + 9) (by omega) hs9 (vp_in_nI (by omega) (by omega)) (D (169, .iaload, 1) (mg 89 rfl)) (by rw [nI_clamp (by omega)]) ?_
              refine X_istore (ls' := [some (.ref (wA w (m))), some (.int (nI (f0))), some (.int (cc)), some (.int (b3)), some (.int (hp136 (m + 9) (p1 + l1)))]) C (D (170, .istore 4, 2) (mg 90 rfl)) (Nat.le_of_ble_eq_true rfl) rfl ?_
              refine X_aload_n C 0 (D (172, .aload_n 0, 1) (mg 91 rfl)) rfl rfl ?_
              refine X_get (v := .int (hp136 (m) 14)) C (m) 14 (by omega) hsm rfl rfl (by decide) inX8 fX8_256 rfl (D (173, .getfield 256, 3) (mg 92 rfl)) rfl ?_
              refine X_iconst (v := nI (1)) C (D (176, .iconst 1, 1) (mg 93 rfl)) (by decide) ?_
              refine X_icmp_ne (tgt := 188) C (D (177, .if_icmp .ne 11, 3) (mg 94 rfl)) (by decide) (fun q22 => ?_) (fun q22 => ?_)
              · skip
                refine X_iload C (D (188, .iload 4, 2) (mg 98 rfl)) rfl ?_
                refine X_cS (As := [.int (hp136 (m + 9) (p1 + l1))]) (st := []) C (post := _) (ct_X8_isFigure hw (hp136 (m + 9) (p1 + l1)) hp136 g) kX8_265 (by decide) (by decide) rfl rfl (Nat.le_of_ble_eq_true rfl) (D (190, .invokestatic 265, 3) (mg 99 rfl)) rfl (fun v25 H23 G24 hv25 => ?_)
                obtain ⟨rfl, rfl, rfl⟩ := hv25
                show X k w _ 193 [some (.ref (wA w (m))), some (.int (nI (f0))), some (.int (cc)), some (.int (b3)), some (.int (hp136 (m + 9) (p1 + l1)))] [.int (if 48 ≤ (hp136 (m + 9) (p1 + l1)).toInt ∧ (hp136 (m + 9) (p1 + l1)).toInt ≤ 57 then 1 else 0)] hp136 g
                refine X_istore_n (ls' := [some (.ref (wA w (m))), some (.int (nI (f0))), some (.int (cc)), some (.int (if 48 ≤ (hp136 (m + 9) (p1 + l1)).toInt ∧ (hp136 (m + 9) (p1 + l1)).toInt ≤ 57 then 1 else 0)), some (.int (hp136 (m + 9) (p1 + l1)))]) C 3 (D (193, .istore_n 3, 1) (mg 100 rfl)) rfl (Nat.le_of_ble_eq_true rfl) rfl ?_
                refine X_aload_n C 0 (D (194, .aload_n 0, 1) (mg 101 rfl)) rfl rfl ?_
                refine X_dup C (D (195, .dup, 1) (mg 102 rfl)) rfl ?_
                refine X_get (v := .int (hp136 (m) 13)) C (m) 13 (by omega) hsm rfl rfl (by decide) inX8 fX8_253 rfl (D (196, .getfield 253, 3) (mg 103 rfl)) rfl ?_
                refine X_ti (y := nI (l1)) (hc136_5) ?_
                refine X_iload_n C 3 (D (199, .iload_n 3, 1) (mg 104 rfl)) rfl rfl ?_
                refine X_if_eq (tgt := 207) C (D (200, .ifCond .eq 7, 3) (mg 105 rfl)) (by decide) (fun q26 => ?_) (fun q26 => ?_)
                · skip
                  have q26 : ¬ (48 ≤ (hp136 (m + 9) (p1 + l1)).toInt ∧ (hp136 (m + 9) (p1 + l1)).toInt ≤ 57) := bz0.mp q26
                  refine X_iconst (v := nI (0)) C (D (207, .iconst 0, 1) (mg 108 rfl)) (by decide) ?_
                  refine X_iadd C (D (208, .iadd, 1) (mg 109 rfl)) ?_
                  refine X_ti (y := nI (l1 + 0)) (nI_add (l1) (0)) ?_
                  refine X_putI C (m) 13 tyX8 tyX8_ok nmX8 (by omega) hsm rfl rfl (by decide) inX8 fX8_253 rfl rfl (by decide +kernel) (D (209, .putfield 253, 3) (mg 110 rfl)) ?_
                  refine X_goto (tgt := 136) C (D (212, .goto (-76), 3) (mg 111 rfl)) (by decide) ?_
                  refine X_los (ls' := [some (.ref (wA w (m))), some (.int (nI (f0))), some (.int (cc)), some (.int (if 48 ≤ (hp136 (m + 9) (p1 + l1)).toInt ∧ (hp136 (m + 9) (p1 + l1)).toInt ≤ 57 then 1 else 0)), none]) (by simp [lsub]) ?_
                  refine X_eq (ls' := [some (.ref (wA w (m))), some (.int (nI (f0))), some (.int (cc)), some (.int (if 48 ≤ (hp136 (m + 9) (p1 + l1)).toInt ∧ (hp136 (m + 9) (p1 + l1)).toInt ≤ 57 then 1 else 0)), none]) (st' := []) (h' := (u2 hp136 (m) 13 (nI (l1 + 0)))) (g' := g) rfl rfl rfl rfl ?_
                  exact ih136 (l1 + 0) (0) (if 48 ≤ (hp136 (m + 9) (p1 + l1)).toInt ∧ (hp136 (m + 9) (p1 + l1)).toInt ≤ 57 then 1 else 0) ((u2 hp136 (m) 13 (nI (l1 + 0)))) (by omega) (by omega) (by omega) (fun _ => if_neg (by assumption)) (((u2_i _ _ _ _ (by omega))).trans hc136_4) ((u2_s _ _ _ _)) (fun q i z => by rw [u2_ne _ _ _ _ (by omega)]; exact hc136_6 q i z) (by omega)
                · skip
                  have q26 : (48 ≤ (hp136 (m + 9) (p1 + l1)).toInt ∧ (hp136 (m + 9) (p1 + l1)).toInt ≤ 57) := bz1.mp q26
                  refine X_iconst (v := nI (1)) C (D (203, .iconst 1, 1) (mg 106 rfl)) (by decide) ?_
                  refine X_goto (tgt := 208) C (D (204, .goto 4, 3) (mg 107 rfl)) (by decide) ?_
                  refine X_iadd C (D (208, .iadd, 1) (mg 109 rfl)) ?_
                  refine X_ti (y := nI (l1 + 1)) (nI_add (l1) (1)) ?_
                  refine X_putI C (m) 13 tyX8 tyX8_ok nmX8 (by omega) hsm rfl rfl (by decide) inX8 fX8_253 rfl rfl (by decide +kernel) (D (209, .putfield 253, 3) (mg 110 rfl)) ?_
                  refine X_goto (tgt := 136) C (D (212, .goto (-76), 3) (mg 111 rfl)) (by decide) ?_
                  refine X_los (ls' := [some (.ref (wA w (m))), some (.int (nI (f0))), some (.int (cc)), some (.int (if 48 ≤ (hp136 (m + 9) (p1 + l1)).toInt ∧ (hp136 (m + 9) (p1 + l1)).toInt ≤ 57 then 1 else 0)), none]) (by simp [lsub]) ?_
                  refine X_eq (ls' := [some (.ref (wA w (m))), some (.int (nI (f0))), some (.int (cc)), some (.int (if 48 ≤ (hp136 (m + 9) (p1 + l1)).toInt ∧ (hp136 (m + 9) (p1 + l1)).toInt ≤ 57 then 1 else 0)), none]) (st' := []) (h' := (u2 hp136 (m) 13 (nI (l1 + 1)))) (g' := g) rfl rfl rfl rfl ?_
                  exact ih136 (l1 + 1) (1) (if 48 ≤ (hp136 (m + 9) (p1 + l1)).toInt ∧ (hp136 (m + 9) (p1 + l1)).toInt ≤ 57 then 1 else 0) ((u2 hp136 (m) 13 (nI (l1 + 1)))) (by omega) (by omega) (by omega) (fun z => absurd z (by omega)) (((u2_i _ _ _ _ (by omega))).trans hc136_4) ((u2_s _ _ _ _)) (fun q i z => by rw [u2_ne _ _ _ _ (by omega)]; exact hc136_6 q i z) (by omega)
              · skip
                refine X_iload C (D (180, .iload 4, 2) (mg 95 rfl)) rfl ?_
                refine X_cS (As := [.int (hp136 (m + 9) (p1 + l1))]) (st := []) C (post := _) (ct_X8_isSmall hw (hp136 (m + 9) (p1 + l1)) hp136 g) kX8_262 (by decide) (by decide) rfl rfl (Nat.le_of_ble_eq_true rfl) (D (182, .invokestatic 262, 3) (mg 96 rfl)) rfl (fun v29 H27 G28 hv29 => ?_)
                obtain ⟨rfl, rfl, rfl⟩ := hv29
                show X k w _ 185 [some (.ref (wA w (m))), some (.int (nI (f0))), some (.int (cc)), some (.int (b3)), some (.int (hp136 (m + 9) (p1 + l1)))] [.int (if 97 ≤ (hp136 (m + 9) (p1 + l1)).toInt ∧ (hp136 (m + 9) (p1 + l1)).toInt ≤ 122 then 1 else 0)] hp136 g
                refine X_goto (tgt := 193) C (D (185, .goto 8, 3) (mg 97 rfl)) (by decide) ?_
                refine X_istore_n (ls' := [some (.ref (wA w (m))), some (.int (nI (f0))), some (.int (cc)), some (.int (if 97 ≤ (hp136 (m + 9) (p1 + l1)).toInt ∧ (hp136 (m + 9) (p1 + l1)).toInt ≤ 122 then 1 else 0)), some (.int (hp136 (m + 9) (p1 + l1)))]) C 3 (D (193, .istore_n 3, 1) (mg 100 rfl)) rfl (Nat.le_of_ble_eq_true rfl) rfl ?_
                refine X_aload_n C 0 (D (194, .aload_n 0, 1) (mg 101 rfl)) rfl rfl ?_
                refine X_dup C (D (195, .dup, 1) (mg 102 rfl)) rfl ?_
                refine X_get (v := .int (hp136 (m) 13)) C (m) 13 (by omega) hsm rfl rfl (by decide) inX8 fX8_253 rfl (D (196, .getfield 253, 3) (mg 103 rfl)) rfl ?_
                refine X_ti (y := nI (l1)) (hc136_5) ?_
                refine X_iload_n C 3 (D (199, .iload_n 3, 1) (mg 104 rfl)) rfl rfl ?_
                refine X_if_eq (tgt := 207) C (D (200, .ifCond .eq 7, 3) (mg 105 rfl)) (by decide) (fun q30 => ?_) (fun q30 => ?_)
                · skip
                  have q30 : ¬ (97 ≤ (hp136 (m + 9) (p1 + l1)).toInt ∧ (hp136 (m + 9) (p1 + l1)).toInt ≤ 122) := bz0.mp q30
                  refine X_iconst (v := nI (0)) C (D (207, .iconst 0, 1) (mg 108 rfl)) (by decide) ?_
                  refine X_iadd C (D (208, .iadd, 1) (mg 109 rfl)) ?_
                  refine X_ti (y := nI (l1 + 0)) (nI_add (l1) (0)) ?_
                  refine X_putI C (m) 13 tyX8 tyX8_ok nmX8 (by omega) hsm rfl rfl (by decide) inX8 fX8_253 rfl rfl (by decide +kernel) (D (209, .putfield 253, 3) (mg 110 rfl)) ?_
                  refine X_goto (tgt := 136) C (D (212, .goto (-76), 3) (mg 111 rfl)) (by decide) ?_
                  refine X_los (ls' := [some (.ref (wA w (m))), some (.int (nI (f0))), some (.int (cc)), some (.int (if 97 ≤ (hp136 (m + 9) (p1 + l1)).toInt ∧ (hp136 (m + 9) (p1 + l1)).toInt ≤ 122 then 1 else 0)), none]) (by simp [lsub]) ?_
                  refine X_eq (ls' := [some (.ref (wA w (m))), some (.int (nI (f0))), some (.int (cc)), some (.int (if 97 ≤ (hp136 (m + 9) (p1 + l1)).toInt ∧ (hp136 (m + 9) (p1 + l1)).toInt ≤ 122 then 1 else 0)), none]) (st' := []) (h' := (u2 hp136 (m) 13 (nI (l1 + 0)))) (g' := g) rfl rfl rfl rfl ?_
                  exact ih136 (l1 + 0) (0) (if 97 ≤ (hp136 (m + 9) (p1 + l1)).toInt ∧ (hp136 (m + 9) (p1 + l1)).toInt ≤ 122 then 1 else 0) ((u2 hp136 (m) 13 (nI (l1 + 0)))) (by omega) (by omega) (by omega) (fun _ => if_neg (by assumption)) (((u2_i _ _ _ _ (by omega))).trans hc136_4) ((u2_s _ _ _ _)) (fun q i z => by rw [u2_ne _ _ _ _ (by omega)]; exact hc136_6 q i z) (by omega)
                · skip
                  have q30 : (97 ≤ (hp136 (m + 9) (p1 + l1)).toInt ∧ (hp136 (m + 9) (p1 + l1)).toInt ≤ 122) := bz1.mp q30
                  refine X_iconst (v := nI (1)) C (D (203, .iconst 1, 1) (mg 106 rfl)) (by decide) ?_
                  refine X_goto (tgt := 208) C (D (204, .goto 4, 3) (mg 107 rfl)) (by decide) ?_
                  refine X_iadd C (D (208, .iadd, 1) (mg 109 rfl)) ?_
                  refine X_ti (y := nI (l1 + 1)) (nI_add (l1) (1)) ?_
                  refine X_putI C (m) 13 tyX8 tyX8_ok nmX8 (by omega) hsm rfl rfl (by decide) inX8 fX8_253 rfl rfl (by decide +kernel) (D (209, .putfield 253, 3) (mg 110 rfl)) ?_
                  refine X_goto (tgt := 136) C (D (212, .goto (-76), 3) (mg 111 rfl)) (by decide) ?_
                  refine X_los (ls' := [some (.ref (wA w (m))), some (.int (nI (f0))), some (.int (cc)), some (.int (if 97 ≤ (hp136 (m + 9) (p1 + l1)).toInt ∧ (hp136 (m + 9) (p1 + l1)).toInt ≤ 122 then 1 else 0)), none]) (by simp [lsub]) ?_
                  refine X_eq (ls' := [some (.ref (wA w (m))), some (.int (nI (f0))), some (.int (cc)), some (.int (if 97 ≤ (hp136 (m + 9) (p1 + l1)).toInt ∧ (hp136 (m + 9) (p1 + l1)).toInt ≤ 122 then 1 else 0)), none]) (st' := []) (h' := (u2 hp136 (m) 13 (nI (l1 + 1)))) (g' := g) rfl rfl rfl rfl ?_
                  exact ih136 (l1 + 1) (1) (if 97 ≤ (hp136 (m + 9) (p1 + l1)).toInt ∧ (hp136 (m + 9) (p1 + l1)).toInt ≤ 122 then 1 else 0) ((u2 hp136 (m) 13 (nI (l1 + 1)))) (by omega) (by omega) (by omega) (fun z => absurd z (by omega)) (((u2_i _ _ _ _ (by omega))).trans hc136_4) ((u2_s _ _ _ _)) (fun q i z => by rw [u2_ne _ _ _ _ (by omega)]; exact hc136_6 q i z) (by omega)
      refine X_eq (ls' := [some (.ref (wA w (m))), some (.int (nI (f0))), some (.int (cc)), some (.int (nI (0))), none]) (st' := []) (h' := (u2 (u2 hh (m) 14 (tk)) (m) 13 (nI (1)))) (g' := g) rfl rfl rfl rfl ?_
      exact lp136 _ (1) (1) (nI (0)) ((u2 (u2 hh (m) 14 (tk)) (m) 13 (nI (1)))) (by omega) (by omega) (by omega) (fun z => absurd z (by omega)) ((((u2_i _ _ _ _ (by omega))).trans (u2_i _ _ _ _ (by omega))).trans hc114_2) ((u2_s _ _ _ _)) (fun q i z => by rw [u2_ne _ _ _ _ (by omega), u2_ne _ _ _ _ (by omega)]; exact hc114_3 q i z) (Nat.le_refl _)
    · skip
      refine X_iconst (v := nI (1)) C (D (130, .iconst 1, 1) (mg 68 rfl)) (by decide) ?_
      refine X_goto (tgt := 135) C (D (131, .goto 4, 3) (mg 69 rfl)) (by decide) ?_
      refine X_istore_n (ls' := [some (.ref (wA w (m))), some (.int (nI (f0))), some (.int (cc)), some (.int (nI (1))), none]) C 3 (D (135, .istore_n 3, 1) (mg 71 rfl)) rfl (Nat.le_of_ble_eq_true rfl) rfl ?_
      have lp136 : ∀ (nn136 : Nat) (l1 : Nat) (e3 : Nat) (b3 : Int32) (hp136 : xI), (1 ≤ l1) → (p1 + l1 ≤ n) → (e3 ≤ 1) → (e3 = 0 → b3 = 0) → (hp136 m 12 = nI p1) → (hp136 m 13 = nI l1) → (∀ q i, (q ≠ m ∨ i < 12 ∨ 15 < i) → hp136 q i = h q i) → 2 * (n - (p1 + l1)) + e3 + 1 ≤ nn136 → X k w (Zq k w (pQv (fun h' => fL m h h' ∧ mT h' m n f0))) 136 [some (.ref (wA w (m))), some (.int (nI (f0))), some (.int (cc)), some (.int (b3)), none] [] hp136 g := by
        intro nn136
        induction nn136 with
        | zero => intro l1 e3 b3 hp136 hc136_0 hc136_1 hc136_2 hc136_3 hc136_4 hc136_5 hc136_6 hz; exact absurd hz (by omega)
        | succ nn136 ih136 =>
          intro l1 e3 b3 hp136 hc136_0 hc136_1 hc136_2 hc136_3 hc136_4 hc136_5 hc136_6 hz136
          refine X_iload_n C 3 (D (136, .iload_n 3, 1) (mg 72 rfl)) rfl rfl ?_
          refine X_if_eq (tgt := 215) C (D (137, .ifCond .eq 78, 3) (mg 73 rfl)) (by decide) (fun q31 => ?_) (fun q31 => ?_)
          · skip
            refine X_iconst (v := nI (0)) C (D (215, .iconst 0, 1) (mg 112 rfl)) (by decide) ?_
            refine X_istore (ls' := [some (.ref (wA w (m))), some (.int (nI (f0))), some (.int (cc)), some (.int (b3)), some (.int (nI (0)))]) C (D (216, .istore 4, 2) (mg 113 rfl)) (Nat.le_of_ble_eq_true rfl) rfl ?_
            have lp218 : ∀ (nn218 : Nat) (k4 : Nat) (hp218 : xI), (k4 ≤ 2) → (hp218 m 12 = nI p1) → (hp218 m 13 = nI l1) → (∀ q i, (q ≠ m ∨ i < 12 ∨ 15 < i) → hp218 q i = h q i) → 3 - k4 ≤ nn218 → X k w (Zq k w (pQv (fun h' => fL m h h' ∧ mT h' m n f0))) 218 [some (.ref (wA w (m))), some (.int (nI (f0))), some (.int (cc)), some (.int (b3)), some (.int (nI (k4)))] [] hp218 g := by
              intro nn218
              induction nn218 with
              | zero => intro k4 hp218 hc218_0 hc218_1 hc218_2 hc218_3 hz; exact absurd hz (by omega)
              | succ nn218 ih218 =>
                intro k4 hp218 hc218_0 hc218_1 hc218_2 hc218_3 hz218
                refine X_iload C (D (218, .iload 4, 2) (mg 114 rfl)) rfl ?_
                refine X_aload_n C 0 (D (220, .aload_n 0, 1) (mg 115 rfl)) rfl rfl ?_
                refine X_get (v := .int (hp218 (m) 13)) C (m) 13 (by omega) hsm rfl rfl (by decide) inX8 fX8_253 rfl (D (221, .getfield 253, 3) (mg 116 rfl)) rfl ?_
                refine X_ti (y := nI (l1)) (hc218_2) ?_
                refine X_icmp_ge (tgt := 274) C (D (224, .if_icmp .ge 50, 3) (mg 117 rfl)) (by decide) (fun q32 => ?_) (fun q32 => ?_)
                · skip
                  have q32 : (k4) ≥ (l1) := by have z := (nI_leI (a := (l1)) (b := (k4)) (by omega) (by omega)).mp q32; omega
                  refine X_aload_n C 0 (D (274, .aload_n 0, 1) (mg 143 rfl)) rfl rfl ?_
                  refine X_aload_n C 0 (D (275, .aload_n 0, 1) (mg 144 rfl)) rfl rfl ?_
                  refine X_get (v := .int (hp218 (m) 14)) C (m) 14 (by omega) hsm rfl rfl (by decide) inX8 fX8_256 rfl (D (276, .getfield 256, 3) (mg 145 rfl)) rfl ?_
                  refine X_iconst (v := nI (2)) C (D (279, .iconst 2, 1) (mg 146 rfl)) (by decide) ?_
                  refine X_icmp_ne (tgt := 295) C (D (280, .if_icmp .ne 15, 3) (mg 147 rfl)) (by decide) (fun q33 => ?_) (fun q33 => ?_)
                  · skip
                    refine X_aload_n C 0 (D (295, .aload_n 0, 1) (mg 154 rfl)) rfl rfl ?_
                    refine X_get (v := .int (hp218 (m) 14)) C (m) 14 (by omega) hsm rfl rfl (by decide) inX8 fX8_256 rfl (D (296, .getfield 256, 3) (mg 155 rfl)) rfl ?_
                    refine X_putI C (m) 14 tyX8 tyX8_ok nmX8 (by omega) hsm rfl rfl (by decide) inX8 fX8_256 rfl rfl (by decide +kernel) (D (299, .putfield 256, 3) (mg 156 rfl)) ?_
                    exact X_vret C (D (302, .return_, 1) (mg 157 rfl)) ⟨rfl, (fun q i z => by rw [u2_ne _ _ _ _ (by omega)]; exact hc218_3 q i z), p1, l1, by omega, by omega, (((u2_i _ _ _ _ (by omega))).trans hc218_1), (((u2_i _ _ _ _ (by omega))).trans hc218_2), Or.inr (by omega)⟩
                  · skip
                    refine X_aload_n C 0 (D (283, .aload_n 0, 1) (mg 148 rfl)) rfl rfl ?_
                    refine X_get (v := .int (hp218 (m) 13)) C (m) 13 (by omega) hsm rfl rfl (by decide) inX8 fX8_253 rfl (D (284, .getfield 253, 3) (mg 149 rfl)) rfl ?_
                    refine X_ti (y := nI (l1)) (hc218_2) ?_
                    refine X_iconst (v := nI (2)) C (D (287, .iconst 2, 1) (mg 150 rfl)) (by decide) ?_
                    refine X_icmp_le (tgt := 295) C (D (288, .if_icmp .le 7, 3) (mg 151 rfl)) (by decide) (fun q34 => ?_) (fun q34 => ?_)
                    · skip
                      have q34 : (l1) ≤ (2) := by have z := (nI_leI (a := (l1)) (b := (2)) (by omega) (by omega)).mp q34; omega
                      refine X_aload_n C 0 (D (295, .aload_n 0, 1) (mg 154 rfl)) rfl rfl ?_
                      refine X_get (v := .int (hp218 (m) 14)) C (m) 14 (by omega) hsm rfl rfl (by decide) inX8 fX8_256 rfl (D (296, .getfield 256, 3) (mg 155 rfl)) rfl ?_
                      refine X_putI C (m) 14 tyX8 tyX8_ok nmX8 (by omega) hsm rfl rfl (by decide) inX8 fX8_256 rfl rfl (by decide +kernel) (D (299, .putfield 256, 3) (mg 156 rfl)) ?_
                      exact X_vret C (D (302, .return_, 1) (mg 157 rfl)) ⟨rfl, (fun q i z => by rw [u2_ne _ _ _ _ (by omega)]; exact hc218_3 q i z), p1, l1, by omega, by omega, (((u2_i _ _ _ _ (by omega))).trans hc218_1), (((u2_i _ _ _ _ (by omega))).trans hc218_2), Or.inr (by omega)⟩
                    · skip
                      have q34 : (l1) > (2) := by have z : ¬ ((l1) ≤ (2)) := fun u => q34 ((nI_leI (a := (l1)) (b := (2)) (by omega) (by omega)).mpr u); omega
                      refine X_iconst (v := nI (4)) C (D (291, .iconst 4, 1) (mg 152 rfl)) (by decide) ?_
                      refine X_goto (tgt := 299) C (D (292, .goto 7, 3) (mg 153 rfl)) (by decide) ?_
                      refine X_putI C (m) 14 tyX8 tyX8_ok nmX8 (by omega) hsm rfl rfl (by decide) inX8 fX8_256 rfl rfl (by decide +kernel) (D (299, .putfield 256, 3) (mg 156 rfl)) ?_
                      exact X_vret C (D (302, .return_, 1) (mg 157 rfl)) ⟨rfl, (fun q i z => by rw [u2_ne _ _ _ _ (by omega)]; exact hc218_3 q i z), p1, l1, by omega, by omega, (((u2_i _ _ _ _ (by omega))).trans hc218_1), (((u2_i _ _ _ _ (by omega))).trans hc218_2), Or.inr (by omega)⟩
                · skip
                  have q32 : (k4) < (l1) := by have z : ¬ ((l1) ≤ (k4)) := fun u => q32 ((nI_leI (a := (l1)) (b := (k4)) (by omega) (by omega)).mpr u); omega
                  refine X_iload C (D (227, .iload 4, 2) (mg 118 rfl)) rfl ?_
                  refine X_iconst (v := nI (2)) C (D (229, .iconst 2, 1) (mg 119 rfl)) (by decide) ?_
                  refine X_icmp_ge (tgt := 274) C (D (230, .if_icmp .ge 44, 3) (mg 120 rfl)) (by decide) (fun q35 => ?_) (fun q35 => ?_)
                  · skip
                    have q35 : (k4) ≥ (2) := by have z := (nI_leI (a := (2)) (b := (k4)) (by omega) (by omega)).mp q35; omega
                    refine X_aload_n C 0 (D (274, .aload_n 0, 1) (mg 143 rfl)) rfl rfl ?_
                    refine X_aload_n C 0 (D (275, .aload_n 0, 1) (mg 144 rfl)) rfl rfl ?_
                    refine X_get (v := .int (hp218 (m) 14)) C (m) 14 (by omega) hsm rfl rfl (by decide) inX8 fX8_256 rfl (D (276, .getfield 256, 3) (mg 145 rfl)) rfl ?_
                    refine X_iconst (v := nI (2)) C (D (279, .iconst 2, 1) (mg 146 rfl)) (by decide) ?_
                    refine X_icmp_ne (tgt := 295) C (D (280, .if_icmp .ne 15, 3) (mg 147 rfl)) (by decide) (fun q36 => ?_) (fun q36 => ?_)
                    · skip
                      refine X_aload_n C 0 (D (295, .aload_n 0, 1) (mg 154 rfl)) rfl rfl ?_
                      refine X_get (v := .int (hp218 (m) 14)) C (m) 14 (by omega) hsm rfl rfl (by decide) inX8 fX8_256 rfl (D (296, .getfield 256, 3) (mg 155 rfl)) rfl ?_
                      refine X_putI C (m) 14 tyX8 tyX8_ok nmX8 (by omega) hsm rfl rfl (by decide) inX8 fX8_256 rfl rfl (by decide +kernel) (D (299, .putfield 256, 3) (mg 156 rfl)) ?_
                      exact X_vret C (D (302, .return_, 1) (mg 157 rfl)) ⟨rfl, (fun q i z => by rw [u2_ne _ _ _ _ (by omega)]; exact hc218_3 q i z), p1, l1, by omega, by omega, (((u2_i _ _ _ _ (by omega))).trans hc218_1), (((u2_i _ _ _ _ (by omega))).trans hc218_2), Or.inr (by omega)⟩
                    · skip
                      refine X_aload_n C 0 (D (283, .aload_n 0, 1) (mg 148 rfl)) rfl rfl ?_
                      refine X_get (v := .int (hp218 (m) 13)) C (m) 13 (by omega) hsm rfl rfl (by decide) inX8 fX8_253 rfl (D (284, .getfield 253, 3) (mg 149 rfl)) rfl ?_
                      refine X_ti (y := nI (l1)) (hc218_2) ?_
                      refine X_iconst (v := nI (2)) C (D (287, .iconst 2, 1) (mg 150 rfl)) (by decide) ?_
                      refine X_icmp_le (tgt := 295) C (D (288, .if_icmp .le 7, 3) (mg 151 rfl)) (by decide) (fun q37 => ?_) (fun q37 => ?_)
                      · skip
                        have q37 : (l1) ≤ (2) := by have z := (nI_leI (a := (l1)) (b := (2)) (by omega) (by omega)).mp q37; omega
                        refine X_aload_n C 0 (D (295, .aload_n 0, 1) (mg 154 rfl)) rfl rfl ?_
                        refine X_get (v := .int (hp218 (m) 14)) C (m) 14 (by omega) hsm rfl rfl (by decide) inX8 fX8_256 rfl (D (296, .getfield 256, 3) (mg 155 rfl)) rfl ?_
                        refine X_putI C (m) 14 tyX8 tyX8_ok nmX8 (by omega) hsm rfl rfl (by decide) inX8 fX8_256 rfl rfl (by decide +kernel) (D (299, .putfield 256, 3) (mg 156 rfl)) ?_
                        exact X_vret C (D (302, .return_, 1) (mg 157 rfl)) ⟨rfl, (fun q i z => by rw [u2_ne _ _ _ _ (by omega)]; exact hc218_3 q i z), p1, l1, by omega, by omega, (((u2_i _ _ _ _ (by omega))).trans hc218_1), (((u2_i _ _ _ _ (by omega))).trans hc218_2), Or.inr (by omega)⟩
                      · skip
                        have q37 : (l1) > (2) := by have z : ¬ ((l1) ≤ (2)) := fun u => q37 ((nI_leI (a := (l1)) (b := (2)) (by omega) (by omega)).mpr u); omega
                        refine X_iconst (v := nI (4)) C (D (291, .iconst 4, 1) (mg 152 rfl)) (by decide) ?_
                        refine X_goto (tgt := 299) C (D (292, .goto 7, 3) (mg 153 rfl)) (by decide) ?_
                        refine X_putI C (m) 14 tyX8 tyX8_ok nmX8 (by omega) hsm rfl rfl (by decide) inX8 fX8_256 rfl rfl (by decide +kernel) (D (299, .putfield 256, 3) (mg 156 rfl)) ?_
                        exact X_vret C (D (302, .return_, 1) (mg 157 rfl)) ⟨rfl, (fun q i z => by rw [u2_ne _ _ _ _ (by omega)]; exact hc218_3 q i z), p1, l1, by omega, by omega, (((u2_i _ _ _ _ (by omega))).trans hc218_1), (((u2_i _ _ _ _ (by omega))).trans hc218_2), Or.inr (by omega)⟩
                  · skip
                    have q35 : (k4) < (2) := by have z : ¬ ((2) ≤ (k4)) := fun u => q35 ((nI_leI (a := (2)) (b := (k4)) (by omega) (by omega)).mpr u); omega
                    refine X_aload_n C 0 (D (233, .aload_n 0, 1) (mg 121 rfl)) rfl rfl ?_
                    refine X_get (v := .int (hp218 (m) 14)) C (m) 14 (by omega) hsm rfl rfl (by decide) inX8 fX8_256 rfl (D (234, .getfield 256, 3) (mg 122 rfl)) rfl ?_
                    refine X_iconst (v := nI (2)) C (D (237, .iconst 2, 1) (mg 123 rfl)) (by decide) ?_
                    refine X_icmp_ne (tgt := 274) C (D (238, .if_icmp .ne 36, 3) (mg 124 rfl)) (by decide) (fun q38 => ?_) (fun q38 => ?_)
                    · skip
                      refine X_aload_n C 0 (D (274, .aload_n 0, 1) (mg 143 rfl)) rfl rfl ?_
                      refine X_aload_n C 0 (D (275, .aload_n 0, 1) (mg 144 rfl)) rfl rfl ?_
                      refine X_get (v := .int (hp218 (m) 14)) C (m) 14 (by omega) hsm rfl rfl (by decide) inX8 fX8_256 rfl (D (276, .getfield 256, 3) (mg 145 rfl)) rfl ?_
                      refine X_iconst (v := nI (2)) C (D (279, .iconst 2, 1) (mg 146 rfl)) (by decide) ?_
                      refine X_icmp_ne (tgt := 295) C (D (280, .if_icmp .ne 15, 3) (mg 147 rfl)) (by decide) (fun q39 => ?_) (fun q39 => ?_)
                      · skip
                        refine X_aload_n C 0 (D (295, .aload_n 0, 1) (mg 154 rfl)) rfl rfl ?_
                        refine X_get (v := .int (hp218 (m) 14)) C (m) 14 (by omega) hsm rfl rfl (by decide) inX8 fX8_256 rfl (D (296, .getfield 256, 3) (mg 155 rfl)) rfl ?_
                        refine X_putI C (m) 14 tyX8 tyX8_ok nmX8 (by omega) hsm rfl rfl (by decide) inX8 fX8_256 rfl rfl (by decide +kernel) (D (299, .putfield 256, 3) (mg 156 rfl)) ?_
                        exact X_vret C (D (302, .return_, 1) (mg 157 rfl)) ⟨rfl, (fun q i z => by rw [u2_ne _ _ _ _ (by omega)]; exact hc218_3 q i z), p1, l1, by omega, by omega, (((u2_i _ _ _ _ (by omega))).trans hc218_1), (((u2_i _ _ _ _ (by omega))).trans hc218_2), Or.inr (by omega)⟩
                      · skip
                        refine X_aload_n C 0 (D (283, .aload_n 0, 1) (mg 148 rfl)) rfl rfl ?_
                        refine X_get (v := .int (hp218 (m) 13)) C (m) 13 (by omega) hsm rfl rfl (by decide) inX8 fX8_253 rfl (D (284, .getfield 253, 3) (mg 149 rfl)) rfl ?_
                        refine X_ti (y := nI (l1)) (hc218_2) ?_
                        refine X_iconst (v := nI (2)) C (D (287, .iconst 2, 1) (mg 150 rfl)) (by decide) ?_
                        refine X_icmp_le (tgt := 295) C (D (288, .if_icmp .le 7, 3) (mg 151 rfl)) (by decide) (fun q40 => ?_) (fun q40 => ?_)
                        · skip
                          have q40 : (l1) ≤ (2) := by have z := (nI_leI (a := (l1)) (b := (2)) (by omega) (by omega)).mp q40; omega
                          refine X_aload_n C 0 (D (295, .aload_n 0, 1) (mg 154 rfl)) rfl rfl ?_
                          refine X_get (v := .int (hp218 (m) 14)) C (m) 14 (by omega) hsm rfl rfl (by decide) inX8 fX8_256 rfl (D (296, .getfield 256, 3) (mg 155 rfl)) rfl ?_
                          refine X_putI C (m) 14 tyX8 tyX8_ok nmX8 (by omega) hsm rfl rfl (by decide) inX8 fX8_256 rfl rfl (by decide +kernel) (D (299, .putfield 256, 3) (mg 156 rfl)) ?_
                          exact X_vret C (D (302, .return_, 1) (mg 157 rfl)) ⟨rfl, (fun q i z => by rw [u2_ne _ _ _ _ (by omega)]; exact hc218_3 q i z), p1, l1, by omega, by omega, (((u2_i _ _ _ _ (by omega))).trans hc218_1), (((u2_i _ _ _ _ (by omega))).trans hc218_2), Or.inr (by omega)⟩
                        · skip
                          have q40 : (l1) > (2) := by have z : ¬ ((l1) ≤ (2)) := fun u => q40 ((nI_leI (a := (l1)) (b := (2)) (by omega) (by omega)).mpr u); omega
                          refine X_iconst (v := nI (4)) C (D (291, .iconst 4, 1) (mg 152 rfl)) (by decide) ?_
                          refine X_goto (tgt := 299) C (D (292, .goto 7, 3) (mg 153 rfl)) (by decide) ?_
                          refine X_putI C (m) 14 tyX8 tyX8_ok nmX8 (by omega) hsm rfl rfl (by decide) inX8 fX8_256 rfl rfl (by decide +kernel) (D (299, .putfield 256, 3) (mg 156 rfl)) ?_
                          exact X_vret C (D (302, .return_, 1) (mg 157 rfl)) ⟨rfl, (fun q i z => by rw [u2_ne _ _ _ _ (by omega)]; exact hc218_3 q i z), p1, l1, by omega, by omega, (((u2_i _ _ _ _ (by omega))).trans hc218_1), (((u2_i _ _ _ _ (by omega))).trans hc218_2), Or.inr (by omega)⟩
                    · skip
                      refine X_aload_n C 0 (D (241, .aload_n 0, 1) (mg 125 rfl)) rfl rfl ?_
                      refine X_bipush (v := nI (10)) C (D (242, .bipush 10, 2) (mg 126 rfl)) (by decide) ?_
                      refine X_aload_n C 0 (D (244, .aload_n 0, 1) (mg 127 rfl)) rfl rfl ?_
                      refine X_get (v := .int (hp218 (m) 15)) C (m) 15 (by omega) hsm rfl rfl (by decide) inX8 fX8_259 rfl (D (245, .getfield 259, 3) (mg 128 rfl)) rfl ?_
                      refine X_imul C (D (248, .imul, 1) (mg 129 rfl)) ?_
                      refine X_aload_n C 0 (D (249, .aload_n 0, 1) (mg 130 rfl)) rfl rfl ?_
                      refine X_get (v := .ref (wA w (m + 9))) C (m) 10 (by omega) hsm rfl rfl (by decide) inX8 fX8_39 rfl (D (250, .getfield 39, 3) (mg 131 rfl)) rfl ?_
                      refine X_aload_n C 0 (D (253, .aload_n 0, 1) (mg 132 rfl)) rfl rfl ?_
                      refine X_get (v := .int (hp218 (m) 12)) C (m) 12 (by omega) hsm rfl rfl (by decide) inX8 fX8_250 rfl (D (254, .getfield 250, 3) (mg 133 rfl)) rfl ?_
                      refine X_ti (y := nI (p1)) (hc218_1) ?_
                      refine X_iload C (D (257, .iload 4, 2) (mg 134 rfl)) rfl ?_
                      refine X_iadd C (D (259, .iadd, 1) (mg 135 rfl)) ?_
                      refine X_ti (y := nI (p1 + k4)) (nI_add (p1) (k4)) ?_
                      refine X_iald (v := hp218 (m + 9) (p1 + k4)) C (m + 9) (by omega) hs9 (vp_in_nI (by omega) (by omega)) (D (260, .iaload, 1) (mg 136 rfl)) (by rw [nI_clamp (by omega)]) ?_
                      refine X_iadd C (D (261, .iadd, 1) (mg 137 rfl)) ?_
                      refine X_bipush (v := nI (48)) C (D (262, .bipush 48, 2) (mg 138 rfl)) (by decide) ?_
                      refine X_isub C (D (264, .isub, 1) (mg 139 rfl)) ?_
                      refine X_putI C (m) 15 tyX8 tyX8_ok nmX8 (by omega) hsm rfl rfl (by decide) inX8 fX8_259 rfl rfl (by decide +kernel) (D (265, .putfield 259, 3) (mg 140 rfl)) ?_
                      refine X_iinc (v := nI (k4 + 1)) (ls' := [some (.ref (wA w (m))), some (.int (nI (f0))), some (.int (cc)), some (.int (b3)), some (.int (nI (k4 + 1)))]) C (D (268, .iinc 4 1, 3) (mg 141 rfl)) rfl (nI_add (k4) 1) rfl ?_
                      refine X_goto (tgt := 218) C (D (271, .goto (-53), 3) (mg 142 rfl)) (by decide) ?_
                      refine X_eq (ls' := [some (.ref (wA w (m))), some (.int (nI (f0))), some (.int (cc)), some (.int (b3)), some (.int (nI (k4 + 1)))]) (st' := []) (h' := (u2 hp218 (m) 15 ((((nI (10)) * (hp218 (m) 15)) + (hp218 (m + 9) (p1 + k4))) - (nI (48))))) (g' := g) rfl rfl rfl rfl ?_
                      exact ih218 (k4 + 1) ((u2 hp218 (m) 15 ((((nI (10)) * (hp218 (m) 15)) + (hp218 (m + 9) (p1 + k4))) - (nI (48))))) (by omega) (((u2_i _ _ _ _ (by omega))).trans hc218_1) (((u2_i _ _ _ _ (by omega))).trans hc218_2) (fun q i z => by rw [u2_ne _ _ _ _ (by omega)]; exact hc218_3 q i z) (by omega)
            refine X_eq (ls' := [some (.ref (wA w (m))), some (.int (nI (f0))), some (.int (cc)), some (.int (b3)), some (.int (nI (0)))]) (st' := []) (h' := hp136) (g' := g) rfl rfl rfl rfl ?_
            exact lp218 _ (0) (hp136) (by omega) (hc136_4) (hc136_5) (fun q i z => by skip; exact hc136_6 q i z) (Nat.le_refl _)
          · skip
            have he3 : ¬ e3 = 0 := fun z => (by assumption : ¬ b3 = 0) (hc136_3 z)
            refine X_aload_n C 0 (D (140, .aload_n 0, 1) (mg 74 rfl)) rfl rfl ?_
            refine X_get (v := .int (hp136 (m) 12)) C (m) 12 (by omega) hsm rfl rfl (by decide) inX8 fX8_250 rfl (D (141, .getfield 250, 3) (mg 75 rfl)) rfl ?_
            refine X_ti (y := nI (p1)) (hc136_4) ?_
            refine X_aload_n C 0 (D (144, .aload_n 0, 1) (mg 76 rfl)) rfl rfl ?_
            refine X_get (v := .int (hp136 (m) 13)) C (m) 13 (by omega) hsm rfl rfl (by decide) inX8 fX8_253 rfl (D (145, .getfield 253, 3) (mg 77 rfl)) rfl ?_
            refine X_ti (y := nI (l1)) (hc136_5) ?_
            refine X_iadd C (D (148, .iadd, 1) (mg 78 rfl)) ?_
            refine X_ti (y := nI (p1 + l1)) (nI_add (p1) (l1)) ?_
            refine X_aload_n C 0 (D (149, .aload_n 0, 1) (mg 79 rfl)) rfl rfl ?_
            refine X_get (v := .int (hp136 (m) 11)) C (m) 11 (by omega) hsm rfl rfl (by decide) inX8 fX8_238 rfl (D (150, .getfield 238, 3) (mg 80 rfl)) rfl ?_
            refine X_ti (y := nI (n)) (((hc136_6 _ _ (by omega)).trans hb)) ?_
            refine X_icmp_ge (tgt := 215) C (D (153, .if_icmp .ge 62, 3) (mg 81 rfl)) (by decide) (fun q41 => ?_) (fun q41 => ?_)
            · skip
              have q41 : (p1 + l1) ≥ (n) := by have z := (nI_leI (a := (n)) (b := (p1 + l1)) (by omega) (by omega)).mp q41; omega
              refine X_iconst (v := nI (0)) C (D (215, .iconst 0, 1) (mg 112 rfl)) (by decide) ?_
              refine X_istore (ls' := [some (.ref (wA w (m))), some (.int (nI (f0))), some (.int (cc)), some (.int (b3)), some (.int (nI (0)))]) C (D (216, .istore 4, 2) (mg 113 rfl)) (Nat.le_of_ble_eq_true rfl) rfl ?_
              have lp218 : ∀ (nn218 : Nat) (k4 : Nat) (hp218 : xI), (k4 ≤ 2) → (hp218 m 12 = nI p1) → (hp218 m 13 = nI l1) → (∀ q i, (q ≠ m ∨ i < 12 ∨ 15 < i) → hp218 q i = h q i) → 3 - k4 ≤ nn218 → X k w (Zq k w (pQv (fun h' => fL m h h' ∧ mT h' m n f0))) 218 [some (.ref (wA w (m))), some (.int (nI (f0))), some (.int (cc)), some (.int (b3)), some (.int (nI (k4)))] [] hp218 g := by
                intro nn218
                induction nn218 with
                | zero => intro k4 hp218 hc218_0 hc218_1 hc218_2 hc218_3 hz; exact absurd hz (by omega)
                | succ nn218 ih218 =>
                  intro k4 hp218 hc218_0 hc218_1 hc218_2 hc218_3 hz218
                  refine X_iload C (D (218, .iload 4, 2) (mg 114 rfl)) rfl ?_
                  refine X_aload_n C 0 (D (220, .aload_n 0, 1) (mg 115 rfl)) rfl rfl ?_
                  refine X_get (v := .int (hp218 (m) 13)) C (m) 13 (by omega) hsm rfl rfl (by decide) inX8 fX8_253 rfl (D (221, .getfield 253, 3) (mg 116 rfl)) rfl ?_
                  refine X_ti (y := nI (l1)) (hc218_2) ?_
                  refine X_icmp_ge (tgt := 274) C (D (224, .if_icmp .ge 50, 3) (mg 117 rfl)) (by decide) (fun q42 => ?_) (fun q42 => ?_)
                  · skip
                    have q42 : (k4) ≥ (l1) := by have z := (nI_leI (a := (l1)) (b := (k4)) (by omega) (by omega)).mp q42; omega
                    refine X_aload_n C 0 (D (274, .aload_n 0, 1) (mg 143 rfl)) rfl rfl ?_
                    refine X_aload_n C 0 (D (275, .aload_n 0, 1) (mg 144 rfl)) rfl rfl ?_
                    refine X_get (v := .int (hp218 (m) 14)) C (m) 14 (by omega) hsm rfl rfl (by decide) inX8 fX8_256 rfl (D (276, .getfield 256, 3) (mg 145 rfl)) rfl ?_
                    refine X_iconst (v := nI (2)) C (D (279, .iconst 2, 1) (mg 146 rfl)) (by decide) ?_
                    refine X_icmp_ne (tgt := 295) C (D (280, .if_icmp .ne 15, 3) (mg 147 rfl)) (by decide) (fun q43 => ?_) (fun q43 => ?_)
                    · skip
                      refine X_aload_n C 0 (D (295, .aload_n 0, 1) (mg 154 rfl)) rfl rfl ?_
                      refine X_get (v := .int (hp218 (m) 14)) C (m) 14 (by omega) hsm rfl rfl (by decide) inX8 fX8_256 rfl (D (296, .getfield 256, 3) (mg 155 rfl)) rfl ?_
                      refine X_putI C (m) 14 tyX8 tyX8_ok nmX8 (by omega) hsm rfl rfl (by decide) inX8 fX8_256 rfl rfl (by decide +kernel) (D (299, .putfield 256, 3) (mg 156 rfl)) ?_
                      exact X_vret C (D (302, .return_, 1) (mg 157 rfl)) ⟨rfl, (fun q i z => by rw [u2_ne _ _ _ _ (by omega)]; exact hc218_3 q i z), p1, l1, by omega, by omega, (((u2_i _ _ _ _ (by omega))).trans hc218_1), (((u2_i _ _ _ _ (by omega))).trans hc218_2), Or.inr (by omega)⟩
                    · skip
                      refine X_aload_n C 0 (D (283, .aload_n 0, 1) (mg 148 rfl)) rfl rfl ?_
                      refine X_get (v := .int (hp218 (m) 13)) C (m) 13 (by omega) hsm rfl rfl (by decide) inX8 fX8_253 rfl (D (284, .getfield 253, 3) (mg 149 rfl)) rfl ?_
                      refine X_ti (y := nI (l1)) (hc218_2) ?_
                      refine X_iconst (v := nI (2)) C (D (287, .iconst 2, 1) (mg 150 rfl)) (by decide) ?_
                      refine X_icmp_le (tgt := 295) C (D (288, .if_icmp .le 7, 3) (mg 151 rfl)) (by decide) (fun q44 => ?_) (fun q44 => ?_)
                      · skip
                        have q44 : (l1) ≤ (2) := by have z := (nI_leI (a := (l1)) (b := (2)) (by omega) (by omega)).mp q44; omega
                        refine X_aload_n C 0 (D (295, .aload_n 0, 1) (mg 154 rfl)) rfl rfl ?_
                        refine X_get (v := .int (hp218 (m) 14)) C (m) 14 (by omega) hsm rfl rfl (by decide) inX8 fX8_256 rfl (D (296, .getfield 256, 3) (mg 155 rfl)) rfl ?_
                        refine X_putI C (m) 14 tyX8 tyX8_ok nmX8 (by omega) hsm rfl rfl (by decide) inX8 fX8_256 rfl rfl (by decide +kernel) (D (299, .putfield 256, 3) (mg 156 rfl)) ?_
                        exact X_vret C (D (302, .return_, 1) (mg 157 rfl)) ⟨rfl, (fun q i z => by rw [u2_ne _ _ _ _ (by omega)]; exact hc218_3 q i z), p1, l1, by omega, by omega, (((u2_i _ _ _ _ (by omega))).trans hc218_1), (((u2_i _ _ _ _ (by omega))).trans hc218_2), Or.inr (by omega)⟩
                      · skip
                        have q44 : (l1) > (2) := by have z : ¬ ((l1) ≤ (2)) := fun u => q44 ((nI_leI (a := (l1)) (b := (2)) (by omega) (by omega)).mpr u); omega
                        refine X_iconst (v := nI (4)) C (D (291, .iconst 4, 1) (mg 152 rfl)) (by decide) ?_
                        refine X_goto (tgt := 299) C (D (292, .goto 7, 3) (mg 153 rfl)) (by decide) ?_
                        refine X_putI C (m) 14 tyX8 tyX8_ok nmX8 (by omega) hsm rfl rfl (by decide) inX8 fX8_256 rfl rfl (by decide +kernel) (D (299, .putfield 256, 3) (mg 156 rfl)) ?_
                        exact X_vret C (D (302, .return_, 1) (mg 157 rfl)) ⟨rfl, (fun q i z => by rw [u2_ne _ _ _ _ (by omega)]; exact hc218_3 q i z), p1, l1, by omega, by omega, (((u2_i _ _ _ _ (by omega))).trans hc218_1), (((u2_i _ _ _ _ (by omega))).trans hc218_2), Or.inr (by omega)⟩
                  · skip
                    have q42 : (k4) < (l1) := by have z : ¬ ((l1) ≤ (k4)) := fun u => q42 ((nI_leI (a := (l1)) (b := (k4)) (by omega) (by omega)).mpr u); omega
                    refine X_iload C (D (227, .iload 4, 2) (mg 118 rfl)) rfl ?_
                    refine X_iconst (v := nI (2)) C (D (229, .iconst 2, 1) (mg 119 rfl)) (by decide) ?_
                    refine X_icmp_ge (tgt := 274) C (D (230, .if_icmp .ge 44, 3) (mg 120 rfl)) (by decide) (fun q45 => ?_) (fun q45 => ?_)
                    · skip
                      have q45 : (k4) ≥ (2) := by have z := (nI_leI (a := (2)) (b := (k4)) (by omega) (by omega)).mp q45; omega
                      refine X_aload_n C 0 (D (274, .aload_n 0, 1) (mg 143 rfl)) rfl rfl ?_
                      refine X_aload_n C 0 (D (275, .aload_n 0, 1) (mg 144 rfl)) rfl rfl ?_
                      refine X_get (v := .int (hp218 (m) 14)) C (m) 14 (by omega) hsm rfl rfl (by decide) inX8 fX8_256 rfl (D (276, .getfield 256, 3) (mg 145 rfl)) rfl ?_
                      refine X_iconst (v := nI (2)) C (D (279, .iconst 2, 1) (mg 146 rfl)) (by decide) ?_
                      refine X_icmp_ne (tgt := 295) C (D (280, .if_icmp .ne 15, 3) (mg 147 rfl)) (by decide) (fun q46 => ?_) (fun q46 => ?_)
                      · skip
                        refine X_aload_n C 0 (D (295, .aload_n 0, 1) (mg 154 rfl)) rfl rfl ?_
                        refine X_get (v := .int (hp218 (m) 14)) C (m) 14 (by omega) hsm rfl rfl (by decide) inX8 fX8_256 rfl (D (296, .getfield 256, 3) (mg 155 rfl)) rfl ?_
                        refine X_putI C (m) 14 tyX8 tyX8_ok nmX8 (by omega) hsm rfl rfl (by decide) inX8 fX8_256 rfl rfl (by decide +kernel) (D (299, .putfield 256, 3) (mg 156 rfl)) ?_
                        exact X_vret C (D (302, .return_, 1) (mg 157 rfl)) ⟨rfl, (fun q i z => by rw [u2_ne _ _ _ _ (by omega)]; exact hc218_3 q i z), p1, l1, by omega, by omega, (((u2_i _ _ _ _ (by omega))).trans hc218_1), (((u2_i _ _ _ _ (by omega))).trans hc218_2), Or.inr (by omega)⟩
                      · skip
                        refine X_aload_n C 0 (D (283, .aload_n 0, 1) (mg 148 rfl)) rfl rfl ?_
                        refine X_get (v := .int (hp218 (m) 13)) C (m) 13 (by omega) hsm rfl rfl (by decide) inX8 fX8_253 rfl (D (284, .getfield 253, 3) (mg 149 rfl)) rfl ?_
                        refine X_ti (y := nI (l1)) (hc218_2) ?_
                        refine X_iconst (v := nI (2)) C (D (287, .iconst 2, 1) (mg 150 rfl)) (by decide) ?_
                        refine X_icmp_le (tgt := 295) C (D (288, .if_icmp .le 7, 3) (mg 151 rfl)) (by decide) (fun q47 => ?_) (fun q47 => ?_)
                        · skip
                          have q47 : (l1) ≤ (2) := by have z := (nI_leI (a := (l1)) (b := (2)) (by omega) (by omega)).mp q47; omega
                          refine X_aload_n C 0 (D (295, .aload_n 0, 1) (mg 154 rfl)) rfl rfl ?_
                          refine X_get (v := .int (hp218 (m) 14)) C (m) 14 (by omega) hsm rfl rfl (by decide) inX8 fX8_256 rfl (D (296, .getfield 256, 3) (mg 155 rfl)) rfl ?_
                          refine X_putI C (m) 14 tyX8 tyX8_ok nmX8 (by omega) hsm rfl rfl (by decide) inX8 fX8_256 rfl rfl (by decide +kernel) (D (299, .putfield 256, 3) (mg 156 rfl)) ?_
                          exact X_vret C (D (302, .return_, 1) (mg 157 rfl)) ⟨rfl, (fun q i z => by rw [u2_ne _ _ _ _ (by omega)]; exact hc218_3 q i z), p1, l1, by omega, by omega, (((u2_i _ _ _ _ (by omega))).trans hc218_1), (((u2_i _ _ _ _ (by omega))).trans hc218_2), Or.inr (by omega)⟩
                        · skip
                          have q47 : (l1) > (2) := by have z : ¬ ((l1) ≤ (2)) := fun u => q47 ((nI_leI (a := (l1)) (b := (2)) (by omega) (by omega)).mpr u); omega
                          refine X_iconst (v := nI (4)) C (D (291, .iconst 4, 1) (mg 152 rfl)) (by decide) ?_
                          refine X_goto (tgt := 299) C (D (292, .goto 7, 3) (mg 153 rfl)) (by decide) ?_
                          refine X_putI C (m) 14 tyX8 tyX8_ok nmX8 (by omega) hsm rfl rfl (by decide) inX8 fX8_256 rfl rfl (by decide +kernel) (D (299, .putfield 256, 3) (mg 156 rfl)) ?_
                          exact X_vret C (D (302, .return_, 1) (mg 157 rfl)) ⟨rfl, (fun q i z => by rw [u2_ne _ _ _ _ (by omega)]; exact hc218_3 q i z), p1, l1, by omega, by omega, (((u2_i _ _ _ _ (by omega))).trans hc218_1), (((u2_i _ _ _ _ (by omega))).trans hc218_2), Or.inr (by omega)⟩
                    · skip
                      have q45 : (k4) < (2) := by have z : ¬ ((2) ≤ (k4)) := fun u => q45 ((nI_leI (a := (2)) (b := (k4)) (by omega) (by omega)).mpr u); omega
                      refine X_aload_n C 0 (D (233, .aload_n 0, 1) (mg 121 rfl)) rfl rfl ?_
                      refine X_get (v := .int (hp218 (m) 14)) C (m) 14 (by omega) hsm rfl rfl (by decide) inX8 fX8_256 rfl (D (234, .getfield 256, 3) (mg 122 rfl)) rfl ?_
                      refine X_iconst (v := nI (2)) C (D (237, .iconst 2, 1) (mg 123 rfl)) (by decide) ?_
                      refine X_icmp_ne (tgt := 274) C (D (238, .if_icmp .ne 36, 3) (mg 124 rfl)) (by decide) (fun q48 => ?_) (fun q48 => ?_)
                      · skip
                        refine X_aload_n C 0 (D (274, .aload_n 0, 1) (mg 143 rfl)) rfl rfl ?_
                        refine X_aload_n C 0 (D (275, .aload_n 0, 1) (mg 144 rfl)) rfl rfl ?_
                        refine X_get (v := .int (hp218 (m) 14)) C (m) 14 (by omega) hsm rfl rfl (by decide) inX8 fX8_256 rfl (D (276, .getfield 256, 3) (mg 145 rfl)) rfl ?_
                        refine X_iconst (v := nI (2)) C (D (279, .iconst 2, 1) (mg 146 rfl)) (by decide) ?_
                        refine X_icmp_ne (tgt := 295) C (D (280, .if_icmp .ne 15, 3) (mg 147 rfl)) (by decide) (fun q49 => ?_) (fun q49 => ?_)
                        · skip
                          refine X_aload_n C 0 (D (295, .aload_n 0, 1) (mg 154 rfl)) rfl rfl ?_
                          refine X_get (v := .int (hp218 (m) 14)) C (m) 14 (by omega) hsm rfl rfl (by decide) inX8 fX8_256 rfl (D (296, .getfield 256, 3) (mg 155 rfl)) rfl ?_
                          refine X_putI C (m) 14 tyX8 tyX8_ok nmX8 (by omega) hsm rfl rfl (by decide) inX8 fX8_256 rfl rfl (by decide +kernel) (D (299, .putfield 256, 3) (mg 156 rfl)) ?_
                          exact X_vret C (D (302, .return_, 1) (mg 157 rfl)) ⟨rfl, (fun q i z => by rw [u2_ne _ _ _ _ (by omega)]; exact hc218_3 q i z), p1, l1, by omega, by omega, (((u2_i _ _ _ _ (by omega))).trans hc218_1), (((u2_i _ _ _ _ (by omega))).trans hc218_2), Or.inr (by omega)⟩
                        · skip
                          refine X_aload_n C 0 (D (283, .aload_n 0, 1) (mg 148 rfl)) rfl rfl ?_
                          refine X_get (v := .int (hp218 (m) 13)) C (m) 13 (by omega) hsm rfl rfl (by decide) inX8 fX8_253 rfl (D (284, .getfield 253, 3) (mg 149 rfl)) rfl ?_
                          refine X_ti (y := nI (l1)) (hc218_2) ?_
                          refine X_iconst (v := nI (2)) C (D (287, .iconst 2, 1) (mg 150 rfl)) (by decide) ?_
                          refine X_icmp_le (tgt := 295) C (D (288, .if_icmp .le 7, 3) (mg 151 rfl)) (by decide) (fun q50 => ?_) (fun q50 => ?_)
                          · skip
                            have q50 : (l1) ≤ (2) := by have z := (nI_leI (a := (l1)) (b := (2)) (by omega) (by omega)).mp q50; omega
                            refine X_aload_n C 0 (D (295, .aload_n 0, 1) (mg 154 rfl)) rfl rfl ?_
                            refine X_get (v := .int (hp218 (m) 14)) C (m) 14 (by omega) hsm rfl rfl (by decide) inX8 fX8_256 rfl (D (296, .getfield 256, 3) (mg 155 rfl)) rfl ?_
                            refine X_putI C (m) 14 tyX8 tyX8_ok nmX8 (by omega) hsm rfl rfl (by decide) inX8 fX8_256 rfl rfl (by decide +kernel) (D (299, .putfield 256, 3) (mg 156 rfl)) ?_
                            exact X_vret C (D (302, .return_, 1) (mg 157 rfl)) ⟨rfl, (fun q i z => by rw [u2_ne _ _ _ _ (by omega)]; exact hc218_3 q i z), p1, l1, by omega, by omega, (((u2_i _ _ _ _ (by omega))).trans hc218_1), (((u2_i _ _ _ _ (by omega))).trans hc218_2), Or.inr (by omega)⟩
                          · skip
                            have q50 : (l1) > (2) := by have z : ¬ ((l1) ≤ (2)) := fun u => q50 ((nI_leI (a := (l1)) (b := (2)) (by omega) (by omega)).mpr u); omega
                            refine X_iconst (v := nI (4)) C (D (291, .iconst 4, 1) (mg 152 rfl)) (by decide) ?_
                            refine X_goto (tgt := 299) C (D (292, .goto 7, 3) (mg 153 rfl)) (by decide) ?_
                            refine X_putI C (m) 14 tyX8 tyX8_ok nmX8 (by omega) hsm rfl rfl (by decide) inX8 fX8_256 rfl rfl (by decide +kernel) (D (299, .putfield 256, 3) (mg 156 rfl)) ?_
                            exact X_vret C (D (302, .return_, 1) (mg 157 rfl)) ⟨rfl, (fun q i z => by rw [u2_ne _ _ _ _ (by omega)]; exact hc218_3 q i z), p1, l1, by omega, by omega, (((u2_i _ _ _ _ (by omega))).trans hc218_1), (((u2_i _ _ _ _ (by omega))).trans hc218_2), Or.inr (by omega)⟩
                      · skip
                        refine X_aload_n C 0 (D (241, .aload_n 0, 1) (mg 125 rfl)) rfl rfl ?_
                        refine X_bipush (v := nI (10)) C (D (242, .bipush 10, 2) (mg 126 rfl)) (by decide) ?_
                        refine X_aload_n C 0 (D (244, .aload_n 0, 1) (mg 127 rfl)) rfl rfl ?_
                        refine X_get (v := .int (hp218 (m) 15)) C (m) 15 (by omega) hsm rfl rfl (by decide) inX8 fX8_259 rfl (D (245, .getfield 259, 3) (mg 128 rfl)) rfl ?_
                        refine X_imul C (D (248, .imul, 1) (mg 129 rfl)) ?_
                        refine X_aload_n C 0 (D (249, .aload_n 0, 1) (mg 130 rfl)) rfl rfl ?_
                        refine X_get (v := .ref (wA w (m + 9))) C (m) 10 (by omega) hsm rfl rfl (by decide) inX8 fX8_39 rfl (D (250, .getfield 39, 3) (mg 131 rfl)) rfl ?_
                        refine X_aload_n C 0 (D (253, .aload_n 0, 1) (mg 132 rfl)) rfl rfl ?_
                        refine X_get (v := .int (hp218 (m) 12)) C (m) 12 (by omega) hsm rfl rfl (by decide) inX8 fX8_250 rfl (D (254, .getfield 250, 3) (mg 133 rfl)) rfl ?_
                        refine X_ti (y := nI (p1)) (hc218_1) ?_
                        refine X_iload C (D (257, .iload 4, 2) (mg 134 rfl)) rfl ?_
                        refine X_iadd C (D (259, .iadd, 1) (mg 135 rfl)) ?_
                        refine X_ti (y := nI (p1 + k4)) (nI_add (p1) (k4)) ?_
                        refine X_iald (v := hp218 (m + 9) (p1 + k4)) C (m + 9) (by omega) hs9 (vp_in_nI (by omega) (by omega)) (D (260, .iaload, 1) (mg 136 rfl)) (by rw [nI_clamp (by omega)]) ?_
                        refine X_iadd C (D (261, .iadd, 1) (mg 137 rfl)) ?_
                        refine X_bipush (v := nI (48)) C (D (262, .bipush 48, 2) (mg 138 rfl)) (by decide) ?_
                        refine X_isub C (D (264, .isub, 1) (mg 139 rfl)) ?_
                        refine X_putI C (m) 15 tyX8 tyX8_ok nmX8 (by omega) hsm rfl rfl (by decide) inX8 fX8_259 rfl rfl (by decide +kernel) (D (265, .putfield 259, 3) (mg 140 rfl)) ?_
                        refine X_iinc (v := nI (k4 + 1)) (ls' := [some (.ref (wA w (m))), some (.int (nI (f0))), some (.int (cc)), some (.int (b3)), some (.int (nI (k4 + 1)))]) C (D (268, .iinc 4 1, 3) (mg 141 rfl)) rfl (nI_add (k4) 1) rfl ?_
                        refine X_goto (tgt := 218) C (D (271, .goto (-53), 3) (mg 142 rfl)) (by decide) ?_
                        refine X_eq (ls' := [some (.ref (wA w (m))), some (.int (nI (f0))), some (.int (cc)), some (.int (b3)), some (.int (nI (k4 + 1)))]) (st' := []) (h' := (u2 hp218 (m) 15 ((((nI (10)) * (hp218 (m) 15)) + (hp218 (m + 9) (p1 + k4))) - (nI (48))))) (g' := g) rfl rfl rfl rfl ?_
                        exact ih218 (k4 + 1) ((u2 hp218 (m) 15 ((((nI (10)) * (hp218 (m) 15)) + (hp218 (m + 9) (p1 + k4))) - (nI (48))))) (by omega) (((u2_i _ _ _ _ (by omega))).trans hc218_1) (((u2_i _ _ _ _ (by omega))).trans hc218_2) (fun q i z => by rw [u2_ne _ _ _ _ (by omega)]; exact hc218_3 q i z) (by omega)
              refine X_eq (ls' := [some (.ref (wA w (m))), some (.int (nI (f0))), some (.int (cc)), some (.int (b3)), some (.int (nI (0)))]) (st' := []) (h' := hp136) (g' := g) rfl rfl rfl rfl ?_
              exact lp218 _ (0) (hp136) (by omega) (hc136_4) (hc136_5) (fun q i z => by skip; exact hc136_6 q i z) (Nat.le_refl _)
            · skip
              have q41 : (p1 + l1) < (n) := by have z : ¬ ((n) ≤ (p1 + l1)) := fun u => q41 ((nI_leI (a := (n)) (b := (p1 + l1)) (by omega) (by omega)).mpr u); omega
              refine X_aload_n C 0 (D (156, .aload_n 0, 1) (mg 82 rfl)) rfl rfl ?_
              refine X_get (v := .ref (wA w (m + 9))) C (m) 10 (by omega) hsm rfl rfl (by decide) inX8 fX8_39 rfl (D (157, .getfield 39, 3) (mg 83 rfl)) rfl ?_
              refine X_aload_n C 0 (D (160, .aload_n 0, 1) (mg 84 rfl)) rfl rfl ?_
              refine X_get (v := .int (hp136 (m) 12)) C (m) 12 (by omega) hsm rfl rfl (by decide) inX8 fX8_250 rfl (D (161, .getfield 250, 3) (mg 85 rfl)) rfl ?_
              refine X_ti (y := nI (p1)) (hc136_4) ?_
              refine X_aload_n C 0 (D (164, .aload_n 0, 1) (mg 86 rfl)) rfl rfl ?_
              refine X_get (v := .int (hp136 (m) 13)) C (m) 13 (by omega) hsm rfl rfl (by decide) inX8 fX8_253 rfl (D (165, .getfield 253, 3) (mg 87 rfl)) rfl ?_
              refine X_ti (y := nI (l1)) (hc136_5) ?_
              refine X_iadd C (D (168, .iadd, 1) (mg 88 rfl)) ?_
              refine X_ti (y := nI (p1 + l1)) (nI_add (p1) (l1)) ?_
              refine X_iald (v := hp136 (m + 9) (p1 + l1)) C (m + 9) (by omega) hs9 (vp_in_nI (by omega) (by omega)) (D (169, .iaload, 1) (mg 89 rfl)) (by rw [nI_clamp (by omega)]) ?_
              refine X_istore (ls' := [some (.ref (wA w (m))), some (.int (nI (f0))), some (.int (cc)), some (.int (b3)), some (.int (hp136 (m + 9) (p1 + l1)))]) C (D (170, .istore 4, 2) (mg 90 rfl)) (Nat.le_of_ble_eq_true rfl) rfl ?_
              refine X_aload_n C 0 (D (172, .aload_n 0, 1) (mg 91 rfl)) rfl rfl ?_
              refine X_get (v := .int (hp136 (m) 14)) C (m) 14 (by omega) hsm rfl rfl (by decide) inX8 fX8_256 rfl (D (173, .getfield 256, 3) (mg 92 rfl)) rfl ?_
              refine X_iconst (v := nI (1)) C (D (176, .iconst 1, 1) (mg 93 rfl)) (by decide) ?_
              refine X_icmp_ne (tgt := 188) C (D (177, .if_icmp .ne 11, 3) (mg 94 rfl)) (by decide) (fun q51 => ?_) (fun q51 => ?_)
              · skip
                refine X_iload C (D (188, .iload 4, 2) (mg 98 rfl)) rfl ?_
                refine X_cS (As := [.int (hp136 (m + 9) (p1 + l1))]) (st := []) C (post := _) (ct_X8_isFigure hw (hp136 (m + 9) (p1 + l1)) hp136 g) kX8_265 (by decide) (by decide) rfl rfl (Nat.le_of_ble_eq_true rfl) (D (190, .invokestatic 265, 3) (mg 99 rfl)) rfl (fun v54 H52 G53 hv54 => ?_)
                obtain ⟨rfl, rfl, rfl⟩ := hv54
                show X k w _ 193 [some (.ref (wA w (m))), some (.int (nI (f0))), some (.int (cc)), some (.int (b3)), some (.int (hp136 (m + 9) (p1 + l1)))] [.int (if 48 ≤ (hp136 (m + 9) (p1 + l1)).toInt ∧ (hp136 (m + 9) (p1 + l1)).toInt ≤ 57 then 1 else 0)] hp136 g
                refine X_istore_n (ls' := [some (.ref (wA w (m))), some (.int (nI (f0))), some (.int (cc)), some (.int (if 48 ≤ (hp136 (m + 9) (p1 + l1)).toInt ∧ (hp136 (m + 9) (p1 + l1)).toInt ≤ 57 then 1 else 0)), some (.int (hp136 (m + 9) (p1 + l1)))]) C 3 (D (193, .istore_n 3, 1) (mg 100 rfl)) rfl (Nat.le_of_ble_eq_true rfl) rfl ?_
                refine X_aload_n C 0 (D (194, .aload_n 0, 1) (mg 101 rfl)) rfl rfl ?_
                refine X_dup C (D (195, .dup, 1) (mg 102 rfl)) rfl ?_
                refine X_get (v := .int (hp136 (m) 13)) C (m) 13 (by omega) hsm rfl rfl (by decide) inX8 fX8_253 rfl (D (196, .getfield 253, 3) (mg 103 rfl)) rfl ?_
                refine X_ti (y := nI (l1)) (hc136_5) ?_
                refine X_iload_n C 3 (D (199, .iload_n 3, 1) (mg 104 rfl)) rfl rfl ?_
                refine X_if_eq (tgt := 207) C (D (200, .ifCond .eq 7, 3) (mg 105 rfl)) (by decide) (fun q55 => ?_) (fun q55 => ?_)
                · skip
                  have q55 : ¬ (48 ≤ (hp136 (m + 9) (p1 + l1)).toInt ∧ (hp136 (m + 9) (p1 + l1)).toInt ≤ 57) := bz0.mp q55
                  refine X_iconst (v := nI (0)) C (D (207, .iconst 0, 1) (mg 108 rfl)) (by decide) ?_
                  refine X_iadd C (D (208, .iadd, 1) (mg 109 rfl)) ?_
                  refine X_ti (y := nI (l1 + 0)) (nI_add (l1) (0)) ?_
                  refine X_putI C (m) 13 tyX8 tyX8_ok nmX8 (by omega) hsm rfl rfl (by decide) inX8 fX8_253 rfl rfl (by decide +kernel) (D (209, .putfield 253, 3) (mg 110 rfl)) ?_
                  refine X_goto (tgt := 136) C (D (212, .goto (-76), 3) (mg 111 rfl)) (by decide) ?_
                  refine X_los (ls' := [some (.ref (wA w (m))), some (.int (nI (f0))), some (.int (cc)), some (.int (if 48 ≤ (hp136 (m + 9) (p1 + l1)).toInt ∧ (hp136 (m + 9) (p1 + l1)).toInt ≤ 57 then 1 else 0)), none]) (by simp [lsub]) ?_
                  refine X_eq (ls' := [some (.ref (wA w (m))), some (.int (nI (f0))), some (.int (cc)), some (.int (if 48 ≤ (hp136 (m + 9) (p1 + l1)).toInt ∧ (hp136 (m + 9) (p1 + l1)).toInt ≤ 57 then 1 else 0)), none]) (st' := []) (h' := (u2 hp136 (m) 13 (nI (l1 + 0)))) (g' := g) rfl rfl rfl rfl ?_
                  exact ih136 (l1 + 0) (0) (if 48 ≤ (hp136 (m + 9) (p1 + l1)).toInt ∧ (hp136 (m + 9) (p1 + l1)).toInt ≤ 57 then 1 else 0) ((u2 hp136 (m) 13 (nI (l1 + 0)))) (by omega) (by omega) (by omega) (fun _ => if_neg (by assumption)) (((u2_i _ _ _ _ (by omega))).trans hc136_4) ((u2_s _ _ _ _)) (fun q i z => by rw [u2_ne _ _ _ _ (by omega)]; exact hc136_6 q i z) (by omega)
                · skip
                  have q55 : (48 ≤ (hp136 (m + 9) (p1 + l1)).toInt ∧ (hp136 (m + 9) (p1 + l1)).toInt ≤ 57) := bz1.mp q55
                  refine X_iconst (v := nI (1)) C (D (203, .iconst 1, 1) (mg 106 rfl)) (by decide) ?_
                  refine X_goto (tgt := 208) C (D (204, .goto 4, 3) (mg 107 rfl)) (by decide) ?_
                  refine X_iadd C (D (208, .iadd, 1) (mg 109 rfl)) ?_
                  refine X_ti (y := nI (l1 + 1)) (nI_add (l1) (1)) ?_
                  refine X_putI C (m) 13 tyX8 tyX8_ok nmX8 (by omega) hsm rfl rfl (by decide) inX8 fX8_253 rfl rfl (by decide +kernel) (D (209, .putfield 253, 3) (mg 110 rfl)) ?_
                  refine X_goto (tgt := 136) C (D (212, .goto (-76), 3) (mg 111 rfl)) (by decide) ?_
                  refine X_los (ls' := [some (.ref (wA w (m))), some (.int (nI (f0))), some (.int (cc)), some (.int (if 48 ≤ (hp136 (m + 9) (p1 + l1)).toInt ∧ (hp136 (m + 9) (p1 + l1)).toInt ≤ 57 then 1 else 0)), none]) (by simp [lsub]) ?_
                  refine X_eq (ls' := [some (.ref (wA w (m))), some (.int (nI (f0))), some (.int (cc)), some (.int (if 48 ≤ (hp136 (m + 9) (p1 + l1)).toInt ∧ (hp136 (m + 9) (p1 + l1)).toInt ≤ 57 then 1 else 0)), none]) (st' := []) (h' := (u2 hp136 (m) 13 (nI (l1 + 1)))) (g' := g) rfl rfl rfl rfl ?_
                  exact ih136 (l1 + 1) (1) (if 48 ≤ (hp136 (m + 9) (p1 + l1)).toInt ∧ (hp136 (m + 9) (p1 + l1)).toInt ≤ 57 then 1 else 0) ((u2 hp136 (m) 13 (nI (l1 + 1)))) (by omega) (by omega) (by omega) (fun z => absurd z (by omega)) (((u2_i _ _ _ _ (by omega))).trans hc136_4) ((u2_s _ _ _ _)) (fun q i z => by rw [u2_ne _ _ _ _ (by omega)]; exact hc136_6 q i z) (by omega)
              · skip
                refine X_iload C (D (180, .iload 4, 2) (mg 95 rfl)) rfl ?_
                refine X_cS (As := [.int (hp136 (m + 9) (p1 + l1))]) (st := []) C (post := _) (ct_X8_isSmall hw (hp136 (m + 9) (p1 + l1)) hp136 g) kX8_262 (by decide) (by decide) rfl rfl (Nat.le_of_ble_eq_true rfl) (D (182, .invokestatic 262, 3) (mg 96 rfl)) rfl (fun v58 H56 G57 hv58 => ?_)
                obtain ⟨rfl, rfl, rfl⟩ := hv58
                show X k w _ 185 [some (.ref (wA w (m))), some (.int (nI (f0))), some (.int (cc)), some (.int (b3)), some (.int (hp136 (m + 9) (p1 + l1)))] [.int (if 97 ≤ (hp136 (m + 9) (p1 + l1)).toInt ∧ (hp136 (m + 9) (p1 + l1)).toInt ≤ 122 then 1 else 0)] hp136 g
                refine X_goto (tgt := 193) C (D (185, .goto 8, 3) (mg 97 rfl)) (by decide) ?_
                refine X_istore_n (ls' := [some (.ref (wA w (m))), some (.int (nI (f0))), some (.int (cc)), some (.int (if 97 ≤ (hp136 (m + 9) (p1 + l1)).toInt ∧ (hp136 (m + 9) (p1 + l1)).toInt ≤ 122 then 1 else 0)), some (.int (hp136 (m + 9) (p1 + l1)))]) C 3 (D (193, .istore_n 3, 1) (mg 100 rfl)) rfl (Nat.le_of_ble_eq_true rfl) rfl ?_
                refine X_aload_n C 0 (D (194, .aload_n 0, 1) (mg 101 rfl)) rfl rfl ?_
                refine X_dup C (D (195, .dup, 1) (mg 102 rfl)) rfl ?_
                refine X_get (v := .int (hp136 (m) 13)) C (m) 13 (by omega) hsm rfl rfl (by decide) inX8 fX8_253 rfl (D (196, .getfield 253, 3) (mg 103 rfl)) rfl ?_
                refine X_ti (y := nI (l1)) (hc136_5) ?_
                refine X_iload_n C 3 (D (199, .iload_n 3, 1) (mg 104 rfl)) rfl rfl ?_
                refine X_if_eq (tgt := 207) C (D (200, .ifCond .eq 7, 3) (mg 105 rfl)) (by decide) (fun q59 => ?_) (fun q59 => ?_)
                · skip
                  have q59 : ¬ (97 ≤ (hp136 (m + 9) (p1 + l1)).toInt ∧ (hp136 (m + 9) (p1 + l1)).toInt ≤ 122) := bz0.mp q59
                  refine X_iconst (v := nI (0)) C (D (207, .iconst 0, 1) (mg 108 rfl)) (by decide) ?_
                  refine X_iadd C (D (208, .iadd, 1) (mg 109 rfl)) ?_
                  refine X_ti (y := nI (l1 + 0)) (nI_add (l1) (0)) ?_
                  refine X_putI C (m) 13 tyX8 tyX8_ok nmX8 (by omega) hsm rfl rfl (by decide) inX8 fX8_253 rfl rfl (by decide +kernel) (D (209, .putfield 253, 3) (mg 110 rfl)) ?_
                  refine X_goto (tgt := 136) C (D (212, .goto (-76), 3) (mg 111 rfl)) (by decide) ?_
                  refine X_los (ls' := [some (.ref (wA w (m))), some (.int (nI (f0))), some (.int (cc)), some (.int (if 97 ≤ (hp136 (m + 9) (p1 + l1)).toInt ∧ (hp136 (m + 9) (p1 + l1)).toInt ≤ 122 then 1 else 0)), none]) (by simp [lsub]) ?_
                  refine X_eq (ls' := [some (.ref (wA w (m))), some (.int (nI (f0))), some (.int (cc)), some (.int (if 97 ≤ (hp136 (m + 9) (p1 + l1)).toInt ∧ (hp136 (m + 9) (p1 + l1)).toInt ≤ 122 then 1 else 0)), none]) (st' := []) (h' := (u2 hp136 (m) 13 (nI (l1 + 0)))) (g' := g) rfl rfl rfl rfl ?_
                  exact ih136 (l1 + 0) (0) (if 97 ≤ (hp136 (m + 9) (p1 + l1)).toInt ∧ (hp136 (m + 9) (p1 + l1)).toInt ≤ 122 then 1 else 0) ((u2 hp136 (m) 13 (nI (l1 + 0)))) (by omega) (by omega) (by omega) (fun _ => if_neg (by assumption)) (((u2_i _ _ _ _ (by omega))).trans hc136_4) ((u2_s _ _ _ _)) (fun q i z => by rw [u2_ne _ _ _ _ (by omega)]; exact hc136_6 q i z) (by omega)
                · skip
                  have q59 : (97 ≤ (hp136 (m + 9) (p1 + l1)).toInt ∧ (hp136 (m + 9) (p1 + l1)).toInt ≤ 122) := bz1.mp q59
                  refine X_iconst (v := nI (1)) C (D (203, .iconst 1, 1) (mg 106 rfl)) (by decide) ?_
                  refine X_goto (tgt := 208) C (D (204, .goto 4, 3) (mg 107 rfl)) (by decide) ?_
                  refine X_iadd C (D (208, .iadd, 1) (mg 109 rfl)) ?_
                  refine X_ti (y := nI (l1 + 1)) (nI_add (l1) (1)) ?_
                  refine X_putI C (m) 13 tyX8 tyX8_ok nmX8 (by omega) hsm rfl rfl (by decide) inX8 fX8_253 rfl rfl (by decide +kernel) (D (209, .putfield 253, 3) (mg 110 rfl)) ?_
                  refine X_goto (tgt := 136) C (D (212, .goto (-76), 3) (mg 111 rfl)) (by decide) ?_
                  refine X_los (ls' := [some (.ref (wA w (m))), some (.int (nI (f0))), some (.int (cc)), some (.int (if 97 ≤ (hp136 (m + 9) (p1 + l1)).toInt ∧ (hp136 (m + 9) (p1 + l1)).toInt ≤ 122 then 1 else 0)), none]) (by simp [lsub]) ?_
                  refine X_eq (ls' := [some (.ref (wA w (m))), some (.int (nI (f0))), some (.int (cc)), some (.int (if 97 ≤ (hp136 (m + 9) (p1 + l1)).toInt ∧ (hp136 (m + 9) (p1 + l1)).toInt ≤ 122 then 1 else 0)), none]) (st' := []) (h' := (u2 hp136 (m) 13 (nI (l1 + 1)))) (g' := g) rfl rfl rfl rfl ?_
                  exact ih136 (l1 + 1) (1) (if 97 ≤ (hp136 (m + 9) (p1 + l1)).toInt ∧ (hp136 (m + 9) (p1 + l1)).toInt ≤ 122 then 1 else 0) ((u2 hp136 (m) 13 (nI (l1 + 1)))) (by omega) (by omega) (by omega) (fun z => absurd z (by omega)) (((u2_i _ _ _ _ (by omega))).trans hc136_4) ((u2_s _ _ _ _)) (fun q i z => by rw [u2_ne _ _ _ _ (by omega)]; exact hc136_6 q i z) (by omega)
      refine X_eq (ls' := [some (.ref (wA w (m))), some (.int (nI (f0))), some (.int (cc)), some (.int (nI (1))), none]) (st' := []) (h' := (u2 (u2 hh (m) 14 (tk)) (m) 13 (nI (1)))) (g' := g) rfl rfl rfl rfl ?_
      exact lp136 _ (1) (1) (nI (1)) ((u2 (u2 hh (m) 14 (tk)) (m) 13 (nI (1)))) (by omega) (by omega) (by omega) (fun z => absurd z (by omega)) ((((u2_i _ _ _ _ (by omega))).trans (u2_i _ _ _ _ (by omega))).trans hc114_2) ((u2_s _ _ _ _)) (fun q i z => by rw [u2_ne _ _ _ _ (by omega), u2_ne _ _ _ _ (by omega)]; exact hc114_3 q i z) (Nat.le_refl _)
  refine X_aload_n C 0 (D (0, .aload_n 0, 1) (mg 0 rfl)) rfl rfl ?_
  refine X_iload_n C 1 (D (1, .iload_n 1, 1) (mg 1 rfl)) rfl rfl ?_
  refine X_putI C (m) 12 tyX8 tyX8_ok nmX8 (by omega) hsm rfl rfl (by decide) inX8 fX8_250 rfl rfl (by decide +kernel) (D (2, .putfield 250, 3) (mg 2 rfl)) ?_
  have lp5 : ∀ (nn5 : Nat) (p1 : Nat) (hp5 : xI), (f0 ≤ p1) → (p1 ≤ n) → (hp5 m 12 = nI p1) → (∀ q i, (q ≠ m ∨ i < 12 ∨ 15 < i) → hp5 q i = h q i) → n + 1 - p1 ≤ nn5 → X k w (Zq k w (pQv (fun h' => fL m h h' ∧ mT h' m n f0))) 5 [some (.ref (wA w (m))), some (.int (nI (f0))), none, none, none] [] hp5 g := by
    intro nn5
    induction nn5 with
    | zero => intro p1 hp5 hc5_0 hc5_1 hc5_2 hc5_3 hz; exact absurd hz (by omega)
    | succ nn5 ih5 =>
      intro p1 hp5 hc5_0 hc5_1 hc5_2 hc5_3 hz5
      refine X_aload_n C 0 (D (5, .aload_n 0, 1) (mg 3 rfl)) rfl rfl ?_
      refine X_get (v := .int (hp5 (m) 12)) C (m) 12 (by omega) hsm rfl rfl (by decide) inX8 fX8_250 rfl (D (6, .getfield 250, 3) (mg 4 rfl)) rfl ?_
      refine X_ti (y := nI (p1)) (hc5_2) ?_
      refine X_aload_n C 0 (D (9, .aload_n 0, 1) (mg 5 rfl)) rfl rfl ?_
      refine X_get (v := .int (hp5 (m) 11)) C (m) 11 (by omega) hsm rfl rfl (by decide) inX8 fX8_238 rfl (D (10, .getfield 238, 3) (mg 6 rfl)) rfl ?_
      refine X_ti (y := nI (n)) (((hc5_3 _ _ (by omega)).trans hb)) ?_
      refine X_icmp_ge (tgt := 43) C (D (13, .if_icmp .ge 30, 3) (mg 7 rfl)) (by decide) (fun q60 => ?_) (fun q60 => ?_)
      · skip
        have q60 : (p1) ≥ (n) := by have z := (nI_leI (a := (n)) (b := (p1)) (by omega) (by omega)).mp q60; omega
        refine X_aload_n C 0 (D (43, .aload_n 0, 1) (mg 22 rfl)) rfl rfl ?_
        refine X_iconst (v := nI (0)) C (D (44, .iconst 0, 1) (mg 23 rfl)) (by decide) ?_
        refine X_putI C (m) 13 tyX8 tyX8_ok nmX8 (by omega) hsm rfl rfl (by decide) inX8 fX8_253 rfl rfl (by decide +kernel) (D (45, .putfield 253, 3) (mg 24 rfl)) ?_
        refine X_aload_n C 0 (D (48, .aload_n 0, 1) (mg 25 rfl)) rfl rfl ?_
        refine X_iconst (v := nI (0)) C (D (49, .iconst 0, 1) (mg 26 rfl)) (by decide) ?_
        refine X_putI C (m) 14 tyX8 tyX8_ok nmX8 (by omega) hsm rfl rfl (by decide) inX8 fX8_256 rfl rfl (by decide +kernel) (D (50, .putfield 256, 3) (mg 27 rfl)) ?_
        refine X_aload_n C 0 (D (53, .aload_n 0, 1) (mg 28 rfl)) rfl rfl ?_
        refine X_iconst (v := nI (0)) C (D (54, .iconst 0, 1) (mg 29 rfl)) (by decide) ?_
        refine X_putI C (m) 15 tyX8 tyX8_ok nmX8 (by omega) hsm rfl rfl (by decide) inX8 fX8_259 rfl rfl (by decide +kernel) (D (55, .putfield 259, 3) (mg 30 rfl)) ?_
        refine X_aload_n C 0 (D (58, .aload_n 0, 1) (mg 31 rfl)) rfl rfl ?_
        refine X_get (v := .int ((u2 (u2 (u2 hp5 (m) 13 (nI (0))) (m) 14 (nI (0))) (m) 15 (nI (0))) (m) 12)) C (m) 12 (by omega) hsm rfl rfl (by decide) inX8 fX8_250 rfl (D (59, .getfield 250, 3) (mg 32 rfl)) rfl ?_
        refine X_ti (y := nI (p1)) (((((u2_i _ _ _ _ (by omega))).trans (u2_i _ _ _ _ (by omega))).trans (u2_i _ _ _ _ (by omega))).trans hc5_2) ?_
        refine X_aload_n C 0 (D (62, .aload_n 0, 1) (mg 33 rfl)) rfl rfl ?_
        refine X_get (v := .int ((u2 (u2 (u2 hp5 (m) 13 (nI (0))) (m) 14 (nI (0))) (m) 15 (nI (0))) (m) 11)) C (m) 11 (by omega) hsm rfl rfl (by decide) inX8 fX8_238 rfl (D (63, .getfield 238, 3) (mg 34 rfl)) rfl ?_
        refine X_ti (y := nI (n)) (((((u2_i _ _ _ _ (by omega))).trans (u2_i _ _ _ _ (by omega))).trans (u2_i _ _ _ _ (by omega))).trans ((hc5_3 _ _ (by omega)).trans hb)) ?_
        refine X_icmp_ne (tgt := 70) C (D (66, .if_icmp .ne 4, 3) (mg 35 rfl)) (by decide) (fun q61 => ?_) (fun q61 => ?_)
        · skip
          have q61 : (p1) ≠ (n) := by have z : ¬ ((p1) = (n)) := fun u => q61 ((nI_eq (a := (p1)) (b := (n)) (by omega) (by omega)).mpr u); omega
          refine X_aload_n C 0 (D (70, .aload_n 0, 1) (mg 37 rfl)) rfl rfl ?_
          refine X_get (v := .ref (wA w (m + 9))) C (m) 10 (by omega) hsm rfl rfl (by decide) inX8 fX8_39 rfl (D (71, .getfield 39, 3) (mg 38 rfl)) rfl ?_
          refine X_aload_n C 0 (D (74, .aload_n 0, 1) (mg 39 rfl)) rfl rfl ?_
          refine X_get (v := .int ((u2 (u2 (u2 hp5 (m) 13 (nI (0))) (m) 14 (nI (0))) (m) 15 (nI (0))) (m) 12)) C (m) 12 (by omega) hsm rfl rfl (by decide) inX8 fX8_250 rfl (D (75, .getfield 250, 3) (mg 40 rfl)) rfl ?_
          refine X_ti (y := nI (p1)) (((((u2_i _ _ _ _ (by omega))).trans (u2_i _ _ _ _ (by omega))).trans (u2_i _ _ _ _ (by omega))).trans hc5_2) ?_
          refine X_iald (v := (u2 (u2 (u2 hp5 (m) 13 (nI (0))) (m) 14 (nI (0))) (m) 15 (nI (0))) (m + 9) (p1)) C (m + 9) (by omega) hs9 (vp_in_nI (by omega) (by omega)) (D (78, .iaload, 1) (mg 41 rfl)) (by rw [nI_clamp (by omega)]) ?_
          refine X_istore_n (ls' := [some (.ref (wA w (m))), some (.int (nI (f0))), some (.int ((u2 (u2 (u2 hp5 (m) 13 (nI (0))) (m) 14 (nI (0))) (m) 15 (nI (0))) (m + 9) (p1))), none, none]) C 2 (D (79, .istore_n 2, 1) (mg 42 rfl)) rfl (Nat.le_of_ble_eq_true rfl) rfl ?_
          refine X_aload_n C 0 (D (80, .aload_n 0, 1) (mg 43 rfl)) rfl rfl ?_
          refine X_iload_n C 2 (D (81, .iload_n 2, 1) (mg 44 rfl)) rfl rfl ?_
          refine X_cS (As := [.int ((u2 (u2 (u2 hp5 (m) 13 (nI (0))) (m) 14 (nI (0))) (m) 15 (nI (0))) (m + 9) (p1))]) (st := [.ref (wA w (m))]) C (post := _) (ct_X8_isSmall hw ((u2 (u2 (u2 hp5 (m) 13 (nI (0))) (m) 14 (nI (0))) (m) 15 (nI (0))) (m + 9) (p1)) (u2 (u2 (u2 hp5 (m) 13 (nI (0))) (m) 14 (nI (0))) (m) 15 (nI (0))) g) kX8_262 (by decide) (by decide) rfl rfl (Nat.le_of_ble_eq_true rfl) (D (82, .invokestatic 262, 3) (mg 45 rfl)) rfl (fun v64 H62 G63 hv64 => ?_)
          obtain ⟨rfl, rfl, rfl⟩ := hv64
          show X k w _ 85 [some (.ref (wA w (m))), some (.int (nI (f0))), some (.int ((u2 (u2 (u2 hp5 (m) 13 (nI (0))) (m) 14 (nI (0))) (m) 15 (nI (0))) (m + 9) (p1))), none, none] [.int (if 97 ≤ ((u2 (u2 (u2 hp5 (m) 13 (nI (0))) (m) 14 (nI (0))) (m) 15 (nI (0))) (m + 9) (p1)).toInt ∧ ((u2 (u2 (u2 hp5 (m) 13 (nI (0))) (m) 14 (nI (0))) (m) 15 (nI (0))) (m + 9) (p1)).toInt ≤ 122 then 1 else 0), .ref (wA w (m))] (u2 (u2 (u2 hp5 (m) 13 (nI (0))) (m) 14 (nI (0))) (m) 15 (nI (0))) g
          refine X_if_eq (tgt := 92) C (D (85, .ifCond .eq 7, 3) (mg 46 rfl)) (by decide) (fun q65 => ?_) (fun q65 => ?_)
          · skip
            have q65 : ¬ (97 ≤ ((u2 (u2 (u2 hp5 (m) 13 (nI (0))) (m) 14 (nI (0))) (m) 15 (nI (0))) (m + 9) (p1)).toInt ∧ ((u2 (u2 (u2 hp5 (m) 13 (nI (0))) (m) 14 (nI (0))) (m) 15 (nI (0))) (m + 9) (p1)).toInt ≤ 122) := bz0.mp q65
            refine X_iload_n C 2 (D (92, .iload_n 2, 1) (mg 49 rfl)) rfl rfl ?_
            refine X_cS (As := [.int ((u2 (u2 (u2 hp5 (m) 13 (nI (0))) (m) 14 (nI (0))) (m) 15 (nI (0))) (m + 9) (p1))]) (st := [.ref (wA w (m))]) C (post := _) (ct_X8_isFigure hw ((u2 (u2 (u2 hp5 (m) 13 (nI (0))) (m) 14 (nI (0))) (m) 15 (nI (0))) (m + 9) (p1)) (u2 (u2 (u2 hp5 (m) 13 (nI (0))) (m) 14 (nI (0))) (m) 15 (nI (0))) g) kX8_265 (by decide) (by decide) rfl rfl (Nat.le_of_ble_eq_true rfl) (D (93, .invokestatic 265, 3) (mg 50 rfl)) rfl (fun v68 H66 G67 hv68 => ?_)
            obtain ⟨rfl, rfl, rfl⟩ := hv68
            show X k w _ 96 [some (.ref (wA w (m))), some (.int (nI (f0))), some (.int ((u2 (u2 (u2 hp5 (m) 13 (nI (0))) (m) 14 (nI (0))) (m) 15 (nI (0))) (m + 9) (p1))), none, none] [.int (if 48 ≤ ((u2 (u2 (u2 hp5 (m) 13 (nI (0))) (m) 14 (nI (0))) (m) 15 (nI (0))) (m + 9) (p1)).toInt ∧ ((u2 (u2 (u2 hp5 (m) 13 (nI (0))) (m) 14 (nI (0))) (m) 15 (nI (0))) (m + 9) (p1)).toInt ≤ 57 then 1 else 0), .ref (wA w (m))] (u2 (u2 (u2 hp5 (m) 13 (nI (0))) (m) 14 (nI (0))) (m) 15 (nI (0))) g
            refine X_if_eq (tgt := 103) C (D (96, .ifCond .eq 7, 3) (mg 51 rfl)) (by decide) (fun q69 => ?_) (fun q69 => ?_)
            · skip
              have q69 : ¬ (48 ≤ ((u2 (u2 (u2 hp5 (m) 13 (nI (0))) (m) 14 (nI (0))) (m) 15 (nI (0))) (m + 9) (p1)).toInt ∧ ((u2 (u2 (u2 hp5 (m) 13 (nI (0))) (m) 14 (nI (0))) (m) 15 (nI (0))) (m + 9) (p1)).toInt ≤ 57) := bz0.mp q69
              refine X_iload_n C 2 (D (103, .iload_n 2, 1) (mg 54 rfl)) rfl rfl ?_
              refine X_bipush (v := nI (59)) C (D (104, .bipush 59, 2) (mg 55 rfl)) (by decide) ?_
              refine X_icmp_ne (tgt := 113) C (D (106, .if_icmp .ne 7, 3) (mg 56 rfl)) (by decide) (fun q70 => ?_) (fun q70 => ?_)
              · skip
                refine X_iconst (v := nI (4)) C (D (113, .iconst 4, 1) (mg 59 rfl)) (by decide) ?_
                refine X_eq (ls' := [some (.ref (wA w (m))), some (.int (nI (f0))), some (.int ((u2 (u2 (u2 hp5 (m) 13 (nI (0))) (m) 14 (nI (0))) (m) 15 (nI (0))) (m + 9) (p1))), none, none]) (st' := [.int (nI (4)), .ref (wA w (m))]) (h' := (u2 (u2 (u2 hp5 (m) 13 (nI (0))) (m) 14 (nI (0))) (m) 15 (nI (0)))) (g' := g) rfl rfl rfl rfl ?_
                exact jn114 ((u2 (u2 (u2 hp5 (m) 13 (nI (0))) (m) 14 (nI (0))) (m) 15 (nI (0)))) (p1) (nI (4)) ((u2 (u2 (u2 hp5 (m) 13 (nI (0))) (m) 14 (nI (0))) (m) 15 (nI (0))) (m + 9) (p1)) (by omega) (by omega) (((((u2_i _ _ _ _ (by omega))).trans (u2_i _ _ _ _ (by omega))).trans (u2_i _ _ _ _ (by omega))).trans hc5_2) (fun q i z => by rw [u2_ne _ _ _ _ (by omega), u2_ne _ _ _ _ (by omega), u2_ne _ _ _ _ (by omega)]; exact hc5_3 q i z)
              · skip
                refine X_iconst (v := nI (3)) C (D (109, .iconst 3, 1) (mg 57 rfl)) (by decide) ?_
                refine X_goto (tgt := 114) C (D (110, .goto 4, 3) (mg 58 rfl)) (by decide) ?_
                refine X_eq (ls' := [some (.ref (wA w (m))), some (.int (nI (f0))), some (.int ((u2 (u2 (u2 hp5 (m) 13 (nI (0))) (m) 14 (nI (0))) (m) 15 (nI (0))) (m + 9) (p1))), none, none]) (st' := [.int (nI (3)), .ref (wA w (m))]) (h' := (u2 (u2 (u2 hp5 (m) 13 (nI (0))) (m) 14 (nI (0))) (m) 15 (nI (0)))) (g' := g) rfl rfl rfl rfl ?_
                exact jn114 ((u2 (u2 (u2 hp5 (m) 13 (nI (0))) (m) 14 (nI (0))) (m) 15 (nI (0)))) (p1) (nI (3)) ((u2 (u2 (u2 hp5 (m) 13 (nI (0))) (m) 14 (nI (0))) (m) 15 (nI (0))) (m + 9) (p1)) (by omega) (by omega) (((((u2_i _ _ _ _ (by omega))).trans (u2_i _ _ _ _ (by omega))).trans (u2_i _ _ _ _ (by omega))).trans hc5_2) (fun q i z => by rw [u2_ne _ _ _ _ (by omega), u2_ne _ _ _ _ (by omega), u2_ne _ _ _ _ (by omega)]; exact hc5_3 q i z)
            · skip
              have q69 : (48 ≤ ((u2 (u2 (u2 hp5 (m) 13 (nI (0))) (m) 14 (nI (0))) (m) 15 (nI (0))) (m + 9) (p1)).toInt ∧ ((u2 (u2 (u2 hp5 (m) 13 (nI (0))) (m) 14 (nI (0))) (m) 15 (nI (0))) (m + 9) (p1)).toInt ≤ 57) := bz1.mp q69
              refine X_iconst (v := nI (2)) C (D (99, .iconst 2, 1) (mg 52 rfl)) (by decide) ?_
              refine X_goto (tgt := 114) C (D (100, .goto 14, 3) (mg 53 rfl)) (by decide) ?_
              refine X_eq (ls' := [some (.ref (wA w (m))), some (.int (nI (f0))), some (.int ((u2 (u2 (u2 hp5 (m) 13 (nI (0))) (m) 14 (nI (0))) (m) 15 (nI (0))) (m + 9) (p1))), none, none]) (st' := [.int (nI (2)), .ref (wA w (m))]) (h' := (u2 (u2 (u2 hp5 (m) 13 (nI (0))) (m) 14 (nI (0))) (m) 15 (nI (0)))) (g' := g) rfl rfl rfl rfl ?_
              exact jn114 ((u2 (u2 (u2 hp5 (m) 13 (nI (0))) (m) 14 (nI (0))) (m) 15 (nI (0)))) (p1) (nI (2)) ((u2 (u2 (u2 hp5 (m) 13 (nI (0))) (m) 14 (nI (0))) (m) 15 (nI (0))) (m + 9) (p1)) (by omega) (by omega) (((((u2_i _ _ _ _ (by omega))).trans (u2_i _ _ _ _ (by omega))).trans (u2_i _ _ _ _ (by omega))).trans hc5_2) (fun q i z => by rw [u2_ne _ _ _ _ (by omega), u2_ne _ _ _ _ (by omega), u2_ne _ _ _ _ (by omega)]; exact hc5_3 q i z)
          · skip
            have q65 : (97 ≤ ((u2 (u2 (u2 hp5 (m) 13 (nI (0))) (m) 14 (nI (0))) (m) 15 (nI (0))) (m + 9) (p1)).toInt ∧ ((u2 (u2 (u2 hp5 (m) 13 (nI (0))) (m) 14 (nI (0))) (m) 15 (nI (0))) (m + 9) (p1)).toInt ≤ 122) := bz1.mp q65
            refine X_iconst (v := nI (1)) C (D (88, .iconst 1, 1) (mg 47 rfl)) (by decide) ?_
            refine X_goto (tgt := 114) C (D (89, .goto 25, 3) (mg 48 rfl)) (by decide) ?_
            refine X_eq (ls' := [some (.ref (wA w (m))), some (.int (nI (f0))), some (.int ((u2 (u2 (u2 hp5 (m) 13 (nI (0))) (m) 14 (nI (0))) (m) 15 (nI (0))) (m + 9) (p1))), none, none]) (st' := [.int (nI (1)), .ref (wA w (m))]) (h' := (u2 (u2 (u2 hp5 (m) 13 (nI (0))) (m) 14 (nI (0))) (m) 15 (nI (0)))) (g' := g) rfl rfl rfl rfl ?_
            exact jn114 ((u2 (u2 (u2 hp5 (m) 13 (nI (0))) (m) 14 (nI (0))) (m) 15 (nI (0)))) (p1) (nI (1)) ((u2 (u2 (u2 hp5 (m) 13 (nI (0))) (m) 14 (nI (0))) (m) 15 (nI (0))) (m + 9) (p1)) (by omega) (by omega) (((((u2_i _ _ _ _ (by omega))).trans (u2_i _ _ _ _ (by omega))).trans (u2_i _ _ _ _ (by omega))).trans hc5_2) (fun q i z => by rw [u2_ne _ _ _ _ (by omega), u2_ne _ _ _ _ (by omega), u2_ne _ _ _ _ (by omega)]; exact hc5_3 q i z)
        · skip
          have q61 : (p1) = (n) := by have z := (nI_eq (a := (p1)) (b := (n)) (by omega) (by omega)).mp q61; omega
          exact X_vret C (D (69, .return_, 1) (mg 36 rfl)) ⟨rfl, (fun q i z => by rw [u2_ne _ _ _ _ (by omega), u2_ne _ _ _ _ (by omega), u2_ne _ _ _ _ (by omega)]; exact hc5_3 q i z), p1, 0, by omega, by omega, (((((u2_i _ _ _ _ (by omega))).trans (u2_i _ _ _ _ (by omega))).trans (u2_i _ _ _ _ (by omega))).trans hc5_2), ((((u2_i _ _ _ _ (by omega))).trans (u2_i _ _ _ _ (by omega))).trans (u2_s _ _ _ _)), Or.inl (((u2_i _ _ _ _ (by omega))).trans (u2_s _ _ _ _))⟩
      · skip
        have q60 : (p1) < (n) := by have z : ¬ ((n) ≤ (p1)) := fun u => q60 ((nI_leI (a := (n)) (b := (p1)) (by omega) (by omega)).mpr u); omega
        refine X_aload_n C 0 (D (16, .aload_n 0, 1) (mg 8 rfl)) rfl rfl ?_
        refine X_get (v := .ref (wA w (m + 9))) C (m) 10 (by omega) hsm rfl rfl (by decide) inX8 fX8_39 rfl (D (17, .getfield 39, 3) (mg 9 rfl)) rfl ?_
        refine X_aload_n C 0 (D (20, .aload_n 0, 1) (mg 10 rfl)) rfl rfl ?_
        refine X_get (v := .int (hp5 (m) 12)) C (m) 12 (by omega) hsm rfl rfl (by decide) inX8 fX8_250 rfl (D (21, .getfield 250, 3) (mg 11 rfl)) rfl ?_
        refine X_ti (y := nI (p1)) (hc5_2) ?_
        refine X_iald (v := hp5 (m + 9) (p1)) C (m + 9) (by omega) hs9 (vp_in_nI (by omega) (by omega)) (D (24, .iaload, 1) (mg 12 rfl)) (by rw [nI_clamp (by omega)]) ?_
        refine X_bipush (v := nI (32)) C (D (25, .bipush 32, 2) (mg 13 rfl)) (by decide) ?_
        refine X_icmp_ne (tgt := 43) C (D (27, .if_icmp .ne 16, 3) (mg 14 rfl)) (by decide) (fun q71 => ?_) (fun q71 => ?_)
        · skip
          refine X_aload_n C 0 (D (43, .aload_n 0, 1) (mg 22 rfl)) rfl rfl ?_
          refine X_iconst (v := nI (0)) C (D (44, .iconst 0, 1) (mg 23 rfl)) (by decide) ?_
          refine X_putI C (m) 13 tyX8 tyX8_ok nmX8 (by omega) hsm rfl rfl (by decide) inX8 fX8_253 rfl rfl (by decide +kernel) (D (45, .putfield 253, 3) (mg 24 rfl)) ?_
          refine X_aload_n C 0 (D (48, .aload_n 0, 1) (mg 25 rfl)) rfl rfl ?_
          refine X_iconst (v := nI (0)) C (D (49, .iconst 0, 1) (mg 26 rfl)) (by decide) ?_
          refine X_putI C (m) 14 tyX8 tyX8_ok nmX8 (by omega) hsm rfl rfl (by decide) inX8 fX8_256 rfl rfl (by decide +kernel) (D (50, .putfield 256, 3) (mg 27 rfl)) ?_
          refine X_aload_n C 0 (D (53, .aload_n 0, 1) (mg 28 rfl)) rfl rfl ?_
          refine X_iconst (v := nI (0)) C (D (54, .iconst 0, 1) (mg 29 rfl)) (by decide) ?_
          refine X_putI C (m) 15 tyX8 tyX8_ok nmX8 (by omega) hsm rfl rfl (by decide) inX8 fX8_259 rfl rfl (by decide +kernel) (D (55, .putfield 259, 3) (mg 30 rfl)) ?_
          refine X_aload_n C 0 (D (58, .aload_n 0, 1) (mg 31 rfl)) rfl rfl ?_
          refine X_get (v := .int ((u2 (u2 (u2 hp5 (m) 13 (nI (0))) (m) 14 (nI (0))) (m) 15 (nI (0))) (m) 12)) C (m) 12 (by omega) hsm rfl rfl (by decide) inX8 fX8_250 rfl (D (59, .getfield 250, 3) (mg 32 rfl)) rfl ?_
          refine X_ti (y := nI (p1)) (((((u2_i _ _ _ _ (by omega))).trans (u2_i _ _ _ _ (by omega))).trans (u2_i _ _ _ _ (by omega))).trans hc5_2) ?_
          refine X_aload_n C 0 (D (62, .aload_n 0, 1) (mg 33 rfl)) rfl rfl ?_
          refine X_get (v := .int ((u2 (u2 (u2 hp5 (m) 13 (nI (0))) (m) 14 (nI (0))) (m) 15 (nI (0))) (m) 11)) C (m) 11 (by omega) hsm rfl rfl (by decide) inX8 fX8_238 rfl (D (63, .getfield 238, 3) (mg 34 rfl)) rfl ?_
          refine X_ti (y := nI (n)) (((((u2_i _ _ _ _ (by omega))).trans (u2_i _ _ _ _ (by omega))).trans (u2_i _ _ _ _ (by omega))).trans ((hc5_3 _ _ (by omega)).trans hb)) ?_
          refine X_icmp_ne (tgt := 70) C (D (66, .if_icmp .ne 4, 3) (mg 35 rfl)) (by decide) (fun q72 => ?_) (fun q72 => ?_)
          · skip
            have q72 : (p1) ≠ (n) := by have z : ¬ ((p1) = (n)) := fun u => q72 ((nI_eq (a := (p1)) (b := (n)) (by omega) (by omega)).mpr u); omega
            refine X_aload_n C 0 (D (70, .aload_n 0, 1) (mg 37 rfl)) rfl rfl ?_
            refine X_get (v := .ref (wA w (m + 9))) C (m) 10 (by omega) hsm rfl rfl (by decide) inX8 fX8_39 rfl (D (71, .getfield 39, 3) (mg 38 rfl)) rfl ?_
            refine X_aload_n C 0 (D (74, .aload_n 0, 1) (mg 39 rfl)) rfl rfl ?_
            refine X_get (v := .int ((u2 (u2 (u2 hp5 (m) 13 (nI (0))) (m) 14 (nI (0))) (m) 15 (nI (0))) (m) 12)) C (m) 12 (by omega) hsm rfl rfl (by decide) inX8 fX8_250 rfl (D (75, .getfield 250, 3) (mg 40 rfl)) rfl ?_
            refine X_ti (y := nI (p1)) (((((u2_i _ _ _ _ (by omega))).trans (u2_i _ _ _ _ (by omega))).trans (u2_i _ _ _ _ (by omega))).trans hc5_2) ?_
            refine X_iald (v := (u2 (u2 (u2 hp5 (m) 13 (nI (0))) (m) 14 (nI (0))) (m) 15 (nI (0))) (m + 9) (p1)) C (m + 9) (by omega) hs9 (vp_in_nI (by omega) (by omega)) (D (78, .iaload, 1) (mg 41 rfl)) (by rw [nI_clamp (by omega)]) ?_
            refine X_istore_n (ls' := [some (.ref (wA w (m))), some (.int (nI (f0))), some (.int ((u2 (u2 (u2 hp5 (m) 13 (nI (0))) (m) 14 (nI (0))) (m) 15 (nI (0))) (m + 9) (p1))), none, none]) C 2 (D (79, .istore_n 2, 1) (mg 42 rfl)) rfl (Nat.le_of_ble_eq_true rfl) rfl ?_
            refine X_aload_n C 0 (D (80, .aload_n 0, 1) (mg 43 rfl)) rfl rfl ?_
            refine X_iload_n C 2 (D (81, .iload_n 2, 1) (mg 44 rfl)) rfl rfl ?_
            refine X_cS (As := [.int ((u2 (u2 (u2 hp5 (m) 13 (nI (0))) (m) 14 (nI (0))) (m) 15 (nI (0))) (m + 9) (p1))]) (st := [.ref (wA w (m))]) C (post := _) (ct_X8_isSmall hw ((u2 (u2 (u2 hp5 (m) 13 (nI (0))) (m) 14 (nI (0))) (m) 15 (nI (0))) (m + 9) (p1)) (u2 (u2 (u2 hp5 (m) 13 (nI (0))) (m) 14 (nI (0))) (m) 15 (nI (0))) g) kX8_262 (by decide) (by decide) rfl rfl (Nat.le_of_ble_eq_true rfl) (D (82, .invokestatic 262, 3) (mg 45 rfl)) rfl (fun v75 H73 G74 hv75 => ?_)
            obtain ⟨rfl, rfl, rfl⟩ := hv75
            show X k w _ 85 [some (.ref (wA w (m))), some (.int (nI (f0))), some (.int ((u2 (u2 (u2 hp5 (m) 13 (nI (0))) (m) 14 (nI (0))) (m) 15 (nI (0))) (m + 9) (p1))), none, none] [.int (if 97 ≤ ((u2 (u2 (u2 hp5 (m) 13 (nI (0))) (m) 14 (nI (0))) (m) 15 (nI (0))) (m + 9) (p1)).toInt ∧ ((u2 (u2 (u2 hp5 (m) 13 (nI (0))) (m) 14 (nI (0))) (m) 15 (nI (0))) (m + 9) (p1)).toInt ≤ 122 then 1 else 0), .ref (wA w (m))] (u2 (u2 (u2 hp5 (m) 13 (nI (0))) (m) 14 (nI (0))) (m) 15 (nI (0))) g
            refine X_if_eq (tgt := 92) C (D (85, .ifCond .eq 7, 3) (mg 46 rfl)) (by decide) (fun q76 => ?_) (fun q76 => ?_)
            · skip
              have q76 : ¬ (97 ≤ ((u2 (u2 (u2 hp5 (m) 13 (nI (0))) (m) 14 (nI (0))) (m) 15 (nI (0))) (m + 9) (p1)).toInt ∧ ((u2 (u2 (u2 hp5 (m) 13 (nI (0))) (m) 14 (nI (0))) (m) 15 (nI (0))) (m + 9) (p1)).toInt ≤ 122) := bz0.mp q76
              refine X_iload_n C 2 (D (92, .iload_n 2, 1) (mg 49 rfl)) rfl rfl ?_
              refine X_cS (As := [.int ((u2 (u2 (u2 hp5 (m) 13 (nI (0))) (m) 14 (nI (0))) (m) 15 (nI (0))) (m + 9) (p1))]) (st := [.ref (wA w (m))]) C (post := _) (ct_X8_isFigure hw ((u2 (u2 (u2 hp5 (m) 13 (nI (0))) (m) 14 (nI (0))) (m) 15 (nI (0))) (m + 9) (p1)) (u2 (u2 (u2 hp5 (m) 13 (nI (0))) (m) 14 (nI (0))) (m) 15 (nI (0))) g) kX8_265 (by decide) (by decide) rfl rfl (Nat.le_of_ble_eq_true rfl) (D (93, .invokestatic 265, 3) (mg 50 rfl)) rfl (fun v79 H77 G78 hv79 => ?_)
              obtain ⟨rfl, rfl, rfl⟩ := hv79
              show X k w _ 96 [some (.ref (wA w (m))), some (.int (nI (f0))), some (.int ((u2 (u2 (u2 hp5 (m) 13 (nI (0))) (m) 14 (nI (0))) (m) 15 (nI (0))) (m + 9) (p1))), none, none] [.int (if 48 ≤ ((u2 (u2 (u2 hp5 (m) 13 (nI (0))) (m) 14 (nI (0))) (m) 15 (nI (0))) (m + 9) (p1)).toInt ∧ ((u2 (u2 (u2 hp5 (m) 13 (nI (0))) (m) 14 (nI (0))) (m) 15 (nI (0))) (m + 9) (p1)).toInt ≤ 57 then 1 else 0), .ref (wA w (m))] (u2 (u2 (u2 hp5 (m) 13 (nI (0))) (m) 14 (nI (0))) (m) 15 (nI (0))) g
              refine X_if_eq (tgt := 103) C (D (96, .ifCond .eq 7, 3) (mg 51 rfl)) (by decide) (fun q80 => ?_) (fun q80 => ?_)
              · skip
                have q80 : ¬ (48 ≤ ((u2 (u2 (u2 hp5 (m) 13 (nI (0))) (m) 14 (nI (0))) (m) 15 (nI (0))) (m + 9) (p1)).toInt ∧ ((u2 (u2 (u2 hp5 (m) 13 (nI (0))) (m) 14 (nI (0))) (m) 15 (nI (0))) (m + 9) (p1)).toInt ≤ 57) := bz0.mp q80
                refine X_iload_n C 2 (D (103, .iload_n 2, 1) (mg 54 rfl)) rfl rfl ?_
                refine X_bipush (v := nI (59)) C (D (104, .bipush 59, 2) (mg 55 rfl)) (by decide) ?_
                refine X_icmp_ne (tgt := 113) C (D (106, .if_icmp .ne 7, 3) (mg 56 rfl)) (by decide) (fun q81 => ?_) (fun q81 => ?_)
                · skip
                  refine X_iconst (v := nI (4)) C (D (113, .iconst 4, 1) (mg 59 rfl)) (by decide) ?_
                  refine X_eq (ls' := [some (.ref (wA w (m))), some (.int (nI (f0))), some (.int ((u2 (u2 (u2 hp5 (m) 13 (nI (0))) (m) 14 (nI (0))) (m) 15 (nI (0))) (m + 9) (p1))), none, none]) (st' := [.int (nI (4)), .ref (wA w (m))]) (h' := (u2 (u2 (u2 hp5 (m) 13 (nI (0))) (m) 14 (nI (0))) (m) 15 (nI (0)))) (g' := g) rfl rfl rfl rfl ?_
                  exact jn114 ((u2 (u2 (u2 hp5 (m) 13 (nI (0))) (m) 14 (nI (0))) (m) 15 (nI (0)))) (p1) (nI (4)) ((u2 (u2 (u2 hp5 (m) 13 (nI (0))) (m) 14 (nI (0))) (m) 15 (nI (0))) (m + 9) (p1)) (by omega) (by omega) (((((u2_i _ _ _ _ (by omega))).trans (u2_i _ _ _ _ (by omega))).trans (u2_i _ _ _ _ (by omega))).trans hc5_2) (fun q i z => by rw [u2_ne _ _ _ _ (by omega), u2_ne _ _ _ _ (by omega), u2_ne _ _ _ _ (by omega)]; exact hc5_3 q i z)
                · skip
                  refine X_iconst (v := nI (3)) C (D (109, .iconst 3, 1) (mg 57 rfl)) (by decide) ?_
                  refine X_goto (tgt := 114) C (D (110, .goto 4, 3) (mg 58 rfl)) (by decide) ?_
                  refine X_eq (ls' := [some (.ref (wA w (m))), some (.int (nI (f0))), some (.int ((u2 (u2 (u2 hp5 (m) 13 (nI (0))) (m) 14 (nI (0))) (m) 15 (nI (0))) (m + 9) (p1))), none, none]) (st' := [.int (nI (3)), .ref (wA w (m))]) (h' := (u2 (u2 (u2 hp5 (m) 13 (nI (0))) (m) 14 (nI (0))) (m) 15 (nI (0)))) (g' := g) rfl rfl rfl rfl ?_
                  exact jn114 ((u2 (u2 (u2 hp5 (m) 13 (nI (0))) (m) 14 (nI (0))) (m) 15 (nI (0)))) (p1) (nI (3)) ((u2 (u2 (u2 hp5 (m) 13 (nI (0))) (m) 14 (nI (0))) (m) 15 (nI (0))) (m + 9) (p1)) (by omega) (by omega) (((((u2_i _ _ _ _ (by omega))).trans (u2_i _ _ _ _ (by omega))).trans (u2_i _ _ _ _ (by omega))).trans hc5_2) (fun q i z => by rw [u2_ne _ _ _ _ (by omega), u2_ne _ _ _ _ (by omega), u2_ne _ _ _ _ (by omega)]; exact hc5_3 q i z)
              · skip
                have q80 : (48 ≤ ((u2 (u2 (u2 hp5 (m) 13 (nI (0))) (m) 14 (nI (0))) (m) 15 (nI (0))) (m + 9) (p1)).toInt ∧ ((u2 (u2 (u2 hp5 (m) 13 (nI (0))) (m) 14 (nI (0))) (m) 15 (nI (0))) (m + 9) (p1)).toInt ≤ 57) := bz1.mp q80
                refine X_iconst (v := nI (2)) C (D (99, .iconst 2, 1) (mg 52 rfl)) (by decide) ?_
                refine X_goto (tgt := 114) C (D (100, .goto 14, 3) (mg 53 rfl)) (by decide) ?_
                refine X_eq (ls' := [some (.ref (wA w (m))), some (.int (nI (f0))), some (.int ((u2 (u2 (u2 hp5 (m) 13 (nI (0))) (m) 14 (nI (0))) (m) 15 (nI (0))) (m + 9) (p1))), none, none]) (st' := [.int (nI (2)), .ref (wA w (m))]) (h' := (u2 (u2 (u2 hp5 (m) 13 (nI (0))) (m) 14 (nI (0))) (m) 15 (nI (0)))) (g' := g) rfl rfl rfl rfl ?_
                exact jn114 ((u2 (u2 (u2 hp5 (m) 13 (nI (0))) (m) 14 (nI (0))) (m) 15 (nI (0)))) (p1) (nI (2)) ((u2 (u2 (u2 hp5 (m) 13 (nI (0))) (m) 14 (nI (0))) (m) 15 (nI (0))) (m + 9) (p1)) (by omega) (by omega) (((((u2_i _ _ _ _ (by omega))).trans (u2_i _ _ _ _ (by omega))).trans (u2_i _ _ _ _ (by omega))).trans hc5_2) (fun q i z => by rw [u2_ne _ _ _ _ (by omega), u2_ne _ _ _ _ (by omega), u2_ne _ _ _ _ (by omega)]; exact hc5_3 q i z)
            · skip
              have q76 : (97 ≤ ((u2 (u2 (u2 hp5 (m) 13 (nI (0))) (m) 14 (nI (0))) (m) 15 (nI (0))) (m + 9) (p1)).toInt ∧ ((u2 (u2 (u2 hp5 (m) 13 (nI (0))) (m) 14 (nI (0))) (m) 15 (nI (0))) (m + 9) (p1)).toInt ≤ 122) := bz1.mp q76
              refine X_iconst (v := nI (1)) C (D (88, .iconst 1, 1) (mg 47 rfl)) (by decide) ?_
              refine X_goto (tgt := 114) C (D (89, .goto 25, 3) (mg 48 rfl)) (by decide) ?_
              refine X_eq (ls' := [some (.ref (wA w (m))), some (.int (nI (f0))), some (.int ((u2 (u2 (u2 hp5 (m) 13 (nI (0))) (m) 14 (nI (0))) (m) 15 (nI (0))) (m + 9) (p1))), none, none]) (st' := [.int (nI (1)), .ref (wA w (m))]) (h' := (u2 (u2 (u2 hp5 (m) 13 (nI (0))) (m) 14 (nI (0))) (m) 15 (nI (0)))) (g' := g) rfl rfl rfl rfl ?_
              exact jn114 ((u2 (u2 (u2 hp5 (m) 13 (nI (0))) (m) 14 (nI (0))) (m) 15 (nI (0)))) (p1) (nI (1)) ((u2 (u2 (u2 hp5 (m) 13 (nI (0))) (m) 14 (nI (0))) (m) 15 (nI (0))) (m + 9) (p1)) (by omega) (by omega) (((((u2_i _ _ _ _ (by omega))).trans (u2_i _ _ _ _ (by omega))).trans (u2_i _ _ _ _ (by omega))).trans hc5_2) (fun q i z => by rw [u2_ne _ _ _ _ (by omega), u2_ne _ _ _ _ (by omega), u2_ne _ _ _ _ (by omega)]; exact hc5_3 q i z)
          · skip
            have q72 : (p1) = (n) := by have z := (nI_eq (a := (p1)) (b := (n)) (by omega) (by omega)).mp q72; omega
            exact X_vret C (D (69, .return_, 1) (mg 36 rfl)) ⟨rfl, (fun q i z => by rw [u2_ne _ _ _ _ (by omega), u2_ne _ _ _ _ (by omega), u2_ne _ _ _ _ (by omega)]; exact hc5_3 q i z), p1, 0, by omega, by omega, (((((u2_i _ _ _ _ (by omega))).trans (u2_i _ _ _ _ (by omega))).trans (u2_i _ _ _ _ (by omega))).trans hc5_2), ((((u2_i _ _ _ _ (by omega))).trans (u2_i _ _ _ _ (by omega))).trans (u2_s _ _ _ _)), Or.inl (((u2_i _ _ _ _ (by omega))).trans (u2_s _ _ _ _))⟩
        · skip
          refine X_aload_n C 0 (D (30, .aload_n 0, 1) (mg 15 rfl)) rfl rfl ?_
          refine X_dup C (D (31, .dup, 1) (mg 16 rfl)) rfl ?_
          refine X_get (v := .int (hp5 (m) 12)) C (m) 12 (by omega) hsm rfl rfl (by decide) inX8 fX8_250 rfl (D (32, .getfield 250, 3) (mg 17 rfl)) rfl ?_
          refine X_ti (y := nI (p1)) (hc5_2) ?_
          refine X_iconst (v := nI (1)) C (D (35, .iconst 1, 1) (mg 18 rfl)) (by decide) ?_
          refine X_iadd C (D (36, .iadd, 1) (mg 19 rfl)) ?_
          refine X_ti (y := nI (p1 + 1)) (nI_add (p1) (1)) ?_
          refine X_putI C (m) 12 tyX8 tyX8_ok nmX8 (by omega) hsm rfl rfl (by decide) inX8 fX8_250 rfl rfl (by decide +kernel) (D (37, .putfield 250, 3) (mg 20 rfl)) ?_
          refine X_goto (tgt := 5) C (D (40, .goto (-35), 3) (mg 21 rfl)) (by decide) ?_
          refine X_eq (ls' := [some (.ref (wA w (m))), some (.int (nI (f0))), none, none, none]) (st' := []) (h' := (u2 hp5 (m) 12 (nI (p1 + 1)))) (g' := g) rfl rfl rfl rfl ?_
          exact ih5 (p1 + 1) ((u2 hp5 (m) 12 (nI (p1 + 1)))) (by omega) (by omega) ((u2_s _ _ _ _)) (fun q i z => by rw [u2_ne _ _ _ _ (by omega)]; exact hc5_3 q i z) (by omega)
  refine X_eq (ls' := [some (.ref (wA w (m))), some (.int (nI (f0))), none, none, none]) (st' := []) (h' := (u2 h (m) 12 (nI (f0)))) (g' := g) rfl rfl rfl rfl ?_
  exact lp5 _ (f0) ((u2 h (m) 12 (nI (f0)))) (by omega) (by omega) ((u2_s _ _ _ _)) (fun q i z => by rw [u2_ne _ _ _ _ (by omega)]) (Nat.le_refl _)
set_option maxHeartbeats 4000000 in
set_option maxRecDepth 100000 in
theorem ct_X8_goBehind {l : Launch} {w : Kw} (hw : wOk w) {m : Nat} (hM : shM w m) {n a l0 : Nat} (hn : n ≤ 150) (hal : a + l0 ≤ n) (h : xI) (g : xJ) (hb : h m 11 = nI n) (ea : h m 12 = nI a) (el : h m 13 = nI l0) : Ct l w yX8_goBehind cX8_goBehind 1 none 3 69 [.ref (wA w (m))] h g (pQv (fun h' => fL m h h' ∧ mT h' m n (a + l0))) := by
  refine Ct_of (ls := [some (.ref (wA w (m)))]) (by decide) hw (Nat.le_of_ble_eq_true rfl) rfl (fun k hkl C => ?_)
  have C : Cx k w cX8_goBehind RX8 1 none 3 69 := C
  have D := dtX8_goBehind
  subst hkl
  have hM0 := hM
  obtain ⟨hm, hsm, hs1, hs2, hs3, hs4, hs5, hs6, hs7, hs8, hs9, hs10, hs11⟩ := hM
  have hM := hM0
  refine X_aload_n C 0 (D (0, .aload_n 0, 1) (mg 0 rfl)) rfl rfl ?_
  refine X_aload_n C 0 (D (1, .aload_n 0, 1) (mg 1 rfl)) rfl rfl ?_
  refine X_get (v := .int (h (m) 12)) C (m) 12 (by omega) hsm rfl rfl (by decide) inX8 fX8_250 rfl (D (2, .getfield 250, 3) (mg 2 rfl)) rfl ?_
  refine X_ti (y := nI (a)) (ea) ?_
  refine X_aload_n C 0 (D (5, .aload_n 0, 1) (mg 3 rfl)) rfl rfl ?_
  refine X_get (v := .int (h (m) 13)) C (m) 13 (by omega) hsm rfl rfl (by decide) inX8 fX8_253 rfl (D (6, .getfield 253, 3) (mg 4 rfl)) rfl ?_
  refine X_ti (y := nI (l0)) (el) ?_
  refine X_iadd C (D (9, .iadd, 1) (mg 5 rfl)) ?_
  refine X_ti (y := nI (a + l0)) (nI_add (a) (l0)) ?_
  refine X_cV (As := [.int (nI (a + l0))]) (st := []) C (post := _) (m) (by omega) hsm rfl (ct_X8_lookAt hw hM (n := n) (f0 := a + l0) (by omega) (by omega) h g (hb)) kX8_268 (by decide) (by decide) rfl rfl (Nat.le_of_ble_eq_true rfl) (D (10, .invokevirtual 268, 3) (mg 6 rfl)) rfl (fun v3 H1 G2 hv3 => ?_)
  obtain ⟨rfl, f4, a5, l6, hga5, hsa5, ea5, el6, hda5⟩ := hv3
  show X k w _ 13 [some (.ref (wA w (m)))] [] H1 G2
  exact X_vret C (D (13, .return_, 1) (mg 7 rfl)) ⟨rfl, fun q i z => by rw [f4 _ _ (by omega)], a5, l6, by omega, by omega, (ea5), (el6), hda5⟩
set_option maxHeartbeats 4000000 in
set_option maxRecDepth 100000 in
theorem ct_X8_spells {l : Launch} {w : Kw} (hw : wOk w) {m : Nat} (hM : shM w m) {n a l0 : Nat} (hn : n ≤ 150) (hal : a + l0 ≤ n) {z0 : Nat} (hz : z0 ≤ 6) (c1 c2 c3 c4 c5 c6 : Int32) (h : xI) (g : xJ) (hb : h m 11 = nI n) (ea : h m 12 = nI a) (el : h m 13 = nI l0) : Ct l w yX8_spells cX8_spells 10 (some .boolean) 0 0 [.ref (wA w (m)), .int (nI (z0)), .int (c1), .int (c2), .int (c3), .int (c4), .int (c5), .int (c6)] h g (pP (fun y => y = 0 ∨ y = 1) h g) := by
  refine Ct_of (ls := [some (.ref (wA w (m))), some (.int (nI (z0))), some (.int (c1)), some (.int (c2)), some (.int (c3)), some (.int (c4)), some (.int (c5)), some (.int (c6)), none, none]) (by decide) hw (Nat.le_of_ble_eq_true rfl) rfl (fun k hkl C => ?_)
  have C : Cx k w cX8_spells RX8 10 (some .boolean) 0 0 := C
  have D := dtX8_spells
  subst hkl
  have hM0 := hM
  obtain ⟨hm, hsm, hs1, hs2, hs3, hs4, hs5, hs6, hs7, hs8, hs9, hs10, hs11⟩ := hM
  have hM := hM0
  refine X_aload_n C 0 (D (0, .aload_n 0, 1) (mg 0 rfl)) rfl rfl ?_
  refine X_get (v := .int (h (m) 14)) C (m) 14 (by omega) hsm rfl rfl (by decide) inX8 fX8_256 rfl (D (1, .getfield 256, 3) (mg 1 rfl)) rfl ?_
  refine X_iconst (v := nI (1)) C (D (4, .iconst 1, 1) (mg 2 rfl)) (by decide) ?_
  refine X_icmp_ne (tgt := 20) C (D (5, .if_icmp .ne 15, 3) (mg 3 rfl)) (by decide) (fun q1 => ?_) (fun q1 => ?_)
  · skip
    refine X_iconst (v := nI (0)) C (D (20, .iconst 0, 1) (mg 10 rfl)) (by decide) ?_
    refine X_istore (ls' := [some (.ref (wA w (m))), some (.int (nI (z0))), some (.int (c1)), some (.int (c2)), some (.int (c3)), some (.int (c4)), some (.int (c5)), some (.int (c6)), some (.int (nI (0))), none]) C (D (21, .istore 8, 2) (mg 11 rfl)) (Nat.le_of_ble_eq_true rfl) rfl ?_
    refine X_iconst (v := nI (0)) C (D (23, .iconst 0, 1) (mg 12 rfl)) (by decide) ?_
    refine X_istore (ls' := [some (.ref (wA w (m))), some (.int (nI (z0))), some (.int (c1)), some (.int (c2)), some (.int (c3)), some (.int (c4)), some (.int (c5)), some (.int (c6)), some (.int (nI (0))), some (.int (nI (0)))]) C (D (24, .istore 9, 2) (mg 13 rfl)) (Nat.le_of_ble_eq_true rfl) rfl ?_
    have lp26 : ∀ (nn26 : Nat) (j : Nat) (b8 : Int32), (j ≤ z0) → (b8 = 0 ∨ b8 = 1) → (¬ b8 = 0 → z0 = l0) → 7 - j ≤ nn26 → X k w (Zq k w (pP (fun y => y = 0 ∨ y = 1) h g)) 26 [some (.ref (wA w (m))), some (.int (nI (z0))), some (.int (c1)), some (.int (c2)), some (.int (c3)), some (.int (c4)), some (.int (c5)), some (.int (c6)), some (.int (b8)), some (.int (nI (j)))] [] h g := by
      intro nn26
      induction nn26 with
      | zero => intro j b8 hc26_0 hc26_1 hc26_2 hz; exact absurd hz (by omega)
      | succ nn26 ih26 =>
        intro j b8 hc26_0 hc26_1 hc26_2 hz26
        refine X_iload C (D (26, .iload 9, 2) (mg 14 rfl)) rfl ?_
        refine X_iload_n C 1 (D (28, .iload_n 1, 1) (mg 15 rfl)) rfl rfl ?_
        refine X_icmp_ge (tgt := 119) C (D (29, .if_icmp .ge 90, 3) (mg 16 rfl)) (by decide) (fun q2 => ?_) (fun q2 => ?_)
        · skip
          have q2 : (j) ≥ (z0) := by have z := (nI_leI (a := (z0)) (b := (j)) (by omega) (by omega)).mp q2; omega
          refine X_iload C (D (119, .iload 8, 2) (mg 58 rfl)) rfl ?_
          exact X_zret C (D (121, .ireturn, 1) (mg 59 rfl)) (nb_01 hc26_1) ⟨⟨_, rfl, hc26_1⟩, rfl, rfl⟩
        · skip
          have q2 : (j) < (z0) := by have z : ¬ ((z0) ≤ (j)) := fun u => q2 ((nI_leI (a := (z0)) (b := (j)) (by omega) (by omega)).mpr u); omega
          refine X_iload C (D (32, .iload 8, 2) (mg 17 rfl)) rfl ?_
          refine X_if_eq (tgt := 119) C (D (34, .ifCond .eq 85, 3) (mg 18 rfl)) (by decide) (fun q3 => ?_) (fun q3 => ?_)
          · skip
            refine X_iload C (D (119, .iload 8, 2) (mg 58 rfl)) rfl ?_
            exact X_zret C (D (121, .ireturn, 1) (mg 59 rfl)) (nb_01 hc26_1) ⟨⟨_, rfl, hc26_1⟩, rfl, rfl⟩
          · skip
            have hz0 : z0 = l0 := hc26_2 (by assumption)
            refine X_aload_n C 0 (D (37, .aload_n 0, 1) (mg 19 rfl)) rfl rfl ?_
            refine X_get (v := .ref (wA w (m + 9))) C (m) 10 (by omega) hsm rfl rfl (by decide) inX8 fX8_39 rfl (D (38, .getfield 39, 3) (mg 20 rfl)) rfl ?_
            refine X_aload_n C 0 (D (41, .aload_n 0, 1) (mg 21 rfl)) rfl rfl ?_
            refine X_get (v := .int (h (m) 12)) C (m) 12 (by omega) hsm rfl rfl (by decide) inX8 fX8_250 rfl (D (42, .getfield 250, 3) (mg 22 rfl)) rfl ?_
            refine X_ti (y := nI (a)) (ea) ?_
            refine X_iload C (D (45, .iload 9, 2) (mg 23 rfl)) rfl ?_
            refine X_iadd C (D (47, .iadd, 1) (mg 24 rfl)) ?_
            refine X_ti (y := nI (a + j)) (nI_add (a) (j)) ?_
            refine X_iald (v := h (m + 9) (a + j)) C (m + 9) (by omega) hs9 (vp_in_nI (by omega) (by omega)) (D (48, .iaload, 1) (mg 25 rfl)) (by rw [nI_clamp (by omega)]) ?_
            refine X_iload C (D (49, .iload 9, 2) (mg 26 rfl)) rfl ?_
            refine X_if_ne (tgt := 58) C (D (51, .ifCond .ne 7, 3) (mg 27 rfl)) (by decide) (fun q4 => ?_) (fun q4 => ?_)
            · skip
              have q4 : (j) ≠ (0) := by have z : ¬ ((j) = (0)) := fun u => q4 ((nI_eq (a := (j)) (b := (0)) (by omega) (by omega)).mpr u); omega
              refine X_iload C (D (58, .iload 9, 2) (mg 30 rfl)) rfl ?_
              refine X_iconst (v := nI (1)) C (D (60, .iconst 1, 1) (mg 31 rfl)) (by decide) ?_
              refine X_icmp_ne (tgt := 68) C (D (61, .if_icmp .ne 7, 3) (mg 32 rfl)) (by decide) (fun q5 => ?_) (fun q5 => ?_)
              · skip
                have q5 : (j) ≠ (1) := by have z : ¬ ((j) = (1)) := fun u => q5 ((nI_eq (a := (j)) (b := (1)) (by omega) (by omega)).mpr u); omega
                refine X_iload C (D (68, .iload 9, 2) (mg 35 rfl)) rfl ?_
                refine X_iconst (v := nI (2)) C (D (70, .iconst 2, 1) (mg 36 rfl)) (by decide) ?_
                refine X_icmp_ne (tgt := 79) C (D (71, .if_icmp .ne 8, 3) (mg 37 rfl)) (by decide) (fun q6 => ?_) (fun q6 => ?_)
                · skip
                  have q6 : (j) ≠ (2) := by have z : ¬ ((j) = (2)) := fun u => q6 ((nI_eq (a := (j)) (b := (2)) (by omega) (by omega)).mpr u); omega
                  refine X_iload C (D (79, .iload 9, 2) (mg 40 rfl)) rfl ?_
                  refine X_iconst (v := nI (3)) C (D (81, .iconst 3, 1) (mg 41 rfl)) (by decide) ?_
                  refine X_icmp_ne (tgt := 90) C (D (82, .if_icmp .ne 8, 3) (mg 42 rfl)) (by decide) (fun q7 => ?_) (fun q7 => ?_)
                  · skip
                    have q7 : (j) ≠ (3) := by have z : ¬ ((j) = (3)) := fun u => q7 ((nI_eq (a := (j)) (b := (3)) (by omega) (by omega)).mpr u); omega
                    refine X_iload C (D (90, .iload 9, 2) (mg 45 rfl)) rfl ?_
                    refine X_iconst (v := nI (4)) C (D (92, .iconst 4, 1) (mg 46 rfl)) (by decide) ?_
                    refine X_icmp_ne (tgt := 101) C (D (93, .if_icmp .ne 8, 3) (mg 47 rfl)) (by decide) (fun q8 => ?_) (fun q8 => ?_)
                    · skip
                      have q8 : (j) ≠ (4) := by have z : ¬ ((j) = (4)) := fun u => q8 ((nI_eq (a := (j)) (b := (4)) (by omega) (by omega)).mpr u); omega
                      refine X_iload C (D (101, .iload 7, 2) (mg 50 rfl)) rfl ?_
                      refine X_icmp_ne (tgt := 110) C (D (103, .if_icmp .ne 7, 3) (mg 51 rfl)) (by decide) (fun q9 => ?_) (fun q9 => ?_)
                      · skip
                        refine X_iconst (v := nI (0)) C (D (110, .iconst 0, 1) (mg 54 rfl)) (by decide) ?_
                        refine X_istore (ls' := [some (.ref (wA w (m))), some (.int (nI (z0))), some (.int (c1)), some (.int (c2)), some (.int (c3)), some (.int (c4)), some (.int (c5)), some (.int (c6)), some (.int (nI (0))), some (.int (nI (j)))]) C (D (111, .istore 8, 2) (mg 55 rfl)) (Nat.le_of_ble_eq_true rfl) rfl ?_
                        refine X_iinc (v := nI (j + 1)) (ls' := [some (.ref (wA w (m))), some (.int (nI (z0))), some (.int (c1)), some (.int (c2)), some (.int (c3)), some (.int (c4)), some (.int (c5)), some (.int (c6)), some (.int (nI (0))), some (.int (nI (j + 1)))]) C (D (113, .iinc 9 1, 3) (mg 56 rfl)) rfl (nI_add (j) 1) rfl ?_
                        refine X_goto (tgt := 26) C (D (116, .goto (-90), 3) (mg 57 rfl)) (by decide) ?_
                        refine X_eq (ls' := [some (.ref (wA w (m))), some (.int (nI (z0))), some (.int (c1)), some (.int (c2)), some (.int (c3)), some (.int (c4)), some (.int (c5)), some (.int (c6)), some (.int (nI (0))), some (.int (nI (j + 1)))]) (st' := []) (h' := h) (g' := g) rfl rfl rfl rfl ?_
                        exact ih26 (j + 1) (nI (0)) (by omega) (by decide) (fun z => absurd rfl z) (by omega)
                      · skip
                        refine X_iconst (v := nI (1)) C (D (106, .iconst 1, 1) (mg 52 rfl)) (by decide) ?_
                        refine X_goto (tgt := 111) C (D (107, .goto 4, 3) (mg 53 rfl)) (by decide) ?_
                        refine X_istore (ls' := [some (.ref (wA w (m))), some (.int (nI (z0))), some (.int (c1)), some (.int (c2)), some (.int (c3)), some (.int (c4)), some (.int (c5)), some (.int (c6)), some (.int (nI (1))), some (.int (nI (j)))]) C (D (111, .istore 8, 2) (mg 55 rfl)) (Nat.le_of_ble_eq_true rfl) rfl ?_
                        refine X_iinc (v := nI (j + 1)) (ls' := [some (.ref (wA w (m))), some (.int (nI (z0))), some (.int (c1)), some (.int (c2)), some (.int (c3)), some (.int (c4)), some (.int (c5)), some (.int (c6)), some (.int (nI (1))), some (.int (nI (j + 1)))]) C (D (113, .iinc 9 1, 3) (mg 56 rfl)) rfl (nI_add (j) 1) rfl ?_
                        refine X_goto (tgt := 26) C (D (116, .goto (-90), 3) (mg 57 rfl)) (by decide) ?_
                        refine X_eq (ls' := [some (.ref (wA w (m))), some (.int (nI (z0))), some (.int (c1)), some (.int (c2)), some (.int (c3)), some (.int (c4)), some (.int (c5)), some (.int (c6)), some (.int (nI (1))), some (.int (nI (j + 1)))]) (st' := []) (h' := h) (g' := g) rfl rfl rfl rfl ?_
                        exact ih26 (j + 1) (nI (1)) (by omega) (by decide) (fun _ => hz0) (by omega)
                    · skip
                      have q8 : (j) = (4) := by have z := (nI_eq (a := (j)) (b := (4)) (by omega) (by omega)).mp q8; omega
                      refine X_iload C (D (96, .iload 6, 2) (mg 48 rfl)) rfl ?_
                      refine X_goto (tgt := 103) C (D (98, .goto 5, 3) (mg 49 rfl)) (by decide) ?_
                      refine X_icmp_ne (tgt := 110) C (D (103, .if_icmp .ne 7, 3) (mg 51 rfl)) (by decide) (fun q10 => ?_) (fun q10 => ?_)
                      · skip
                        refine X_iconst (v := nI (0)) C (D (110, .iconst 0, 1) (mg 54 rfl)) (by decide) ?_
                        refine X_istore (ls' := [some (.ref (wA w (m))), some (.int (nI (z0))), some (.int (c1)), some (.int (c2)), some (.int (c3)), some (.int (c4)), some (.int (c5)), some (.int (c6)), some (.int (nI (0))), some (.int (nI (j)))]) C (D (111, .istore 8, 2) (mg 55 rfl)) (Nat.le_of_ble_eq_true rfl) rfl ?_
                        refine X_iinc (v := nI (j + 1)) (ls' := [some (.ref (wA w (m))), some (.int (nI (z0))), some (.int (c1)), some (.int (c2)), some (.int (c3)), some (.int (c4)), some (.int (c5)), some (.int (c6)), some (.int (nI (0))), some (.int (nI (j + 1)))]) C (D (113, .iinc 9 1, 3) (mg 56 rfl)) rfl (nI_add (j) 1) rfl ?_
                        refine X_goto (tgt := 26) C (D (116, .goto (-90), 3) (mg 57 rfl)) (by decide) ?_
                        refine X_eq (ls' := [some (.ref (wA w (m))), some (.int (nI (z0))), some (.int (c1)), some (.int (c2)), some (.int (c3)), some (.int (c4)), some (.int (c5)), some (.int (c6)), some (.int (nI (0))), some (.int (nI (j + 1)))]) (st' := []) (h' := h) (g' := g) rfl rfl rfl rfl ?_
                        exact ih26 (j + 1) (nI (0)) (by omega) (by decide) (fun z => absurd rfl z) (by omega)
                      · skip
                        refine X_iconst (v := nI (1)) C (D (106, .iconst 1, 1) (mg 52 rfl)) (by decide) ?_
                        refine X_goto (tgt := 111) C (D (107, .goto 4, 3) (mg 53 rfl)) (by decide) ?_
                        refine X_istore (ls' := [some (.ref (wA w (m))), some (.int (nI (z0))), some (.int (c1)), some (.int (c2)), some (.int (c3)), some (.int (c4)), some (.int (c5)), some (.int (c6)), some (.int (nI (1))), some (.int (nI (j)))]) C (D (111, .istore 8, 2) (mg 55 rfl)) (Nat.le_of_ble_eq_true rfl) rfl ?_
                        refine X_iinc (v := nI (j + 1)) (ls' := [some (.ref (wA w (m))), some (.int (nI (z0))), some (.int (c1)), some (.int (c2)), some (.int (c3)), some (.int (c4)), some (.int (c5)), some (.int (c6)), some (.int (nI (1))), some (.int (nI (j + 1)))]) C (D (113, .iinc 9 1, 3) (mg 56 rfl)) rfl (nI_add (j) 1) rfl ?_
                        refine X_goto (tgt := 26) C (D (116, .goto (-90), 3) (mg 57 rfl)) (by decide) ?_
                        refine X_eq (ls' := [some (.ref (wA w (m))), some (.int (nI (z0))), some (.int (c1)), some (.int (c2)), some (.int (c3)), some (.int (c4)), some (.int (c5)), some (.int (c6)), some (.int (nI (1))), some (.int (nI (j + 1)))]) (st' := []) (h' := h) (g' := g) rfl rfl rfl rfl ?_
                        exact ih26 (j + 1) (nI (1)) (by omega) (by decide) (fun _ => hz0) (by omega)
                  · skip
                    have q7 : (j) = (3) := by have z := (nI_eq (a := (j)) (b := (3)) (by omega) (by omega)).mp q7; omega
                    refine X_iload C (D (85, .iload 5, 2) (mg 43 rfl)) rfl ?_
                    refine X_goto (tgt := 103) C (D (87, .goto 16, 3) (mg 44 rfl)) (by decide) ?_
                    refine X_icmp_ne (tgt := 110) C (D (103, .if_icmp .ne 7, 3) (mg 51 rfl)) (by decide) (fun q11 => ?_) (fun q11 => ?_)
                    · skip
                      refine X_iconst (v := nI (0)) C (D (110, .iconst 0, 1) (mg 54 rfl)) (by decide) ?_
                      refine X_istore (ls' := [some (.ref (wA w (m))), some (.int (nI (z0))), some (.int (c1)), some (.int (c2)), some (.int (c3)), some (.int (c4)), some (.int (c5)), some (.int (c6)), some (.int (nI (0))), some (.int (nI (j)))]) C (D (111, .istore 8, 2) (mg 55 rfl)) (Nat.le_of_ble_eq_true rfl) rfl ?_
                      refine X_iinc (v := nI (j + 1)) (ls' := [some (.ref (wA w (m))), some (.int (nI (z0))), some (.int (c1)), some (.int (c2)), some (.int (c3)), some (.int (c4)), some (.int (c5)), some (.int (c6)), some (.int (nI (0))), some (.int (nI (j + 1)))]) C (D (113, .iinc 9 1, 3) (mg 56 rfl)) rfl (nI_add (j) 1) rfl ?_
                      refine X_goto (tgt := 26) C (D (116, .goto (-90), 3) (mg 57 rfl)) (by decide) ?_
                      refine X_eq (ls' := [some (.ref (wA w (m))), some (.int (nI (z0))), some (.int (c1)), some (.int (c2)), some (.int (c3)), some (.int (c4)), some (.int (c5)), some (.int (c6)), some (.int (nI (0))), some (.int (nI (j + 1)))]) (st' := []) (h' := h) (g' := g) rfl rfl rfl rfl ?_
                      exact ih26 (j + 1) (nI (0)) (by omega) (by decide) (fun z => absurd rfl z) (by omega)
                    · skip
                      refine X_iconst (v := nI (1)) C (D (106, .iconst 1, 1) (mg 52 rfl)) (by decide) ?_
                      refine X_goto (tgt := 111) C (D (107, .goto 4, 3) (mg 53 rfl)) (by decide) ?_
                      refine X_istore (ls' := [some (.ref (wA w (m))), some (.int (nI (z0))), some (.int (c1)), some (.int (c2)), some (.int (c3)), some (.int (c4)), some (.int (c5)), some (.int (c6)), some (.int (nI (1))), some (.int (nI (j)))]) C (D (111, .istore 8, 2) (mg 55 rfl)) (Nat.le_of_ble_eq_true rfl) rfl ?_
                      refine X_iinc (v := nI (j + 1)) (ls' := [some (.ref (wA w (m))), some (.int (nI (z0))), some (.int (c1)), some (.int (c2)), some (.int (c3)), some (.int (c4)), some (.int (c5)), some (.int (c6)), some (.int (nI (1))), some (.int (nI (j + 1)))]) C (D (113, .iinc 9 1, 3) (mg 56 rfl)) rfl (nI_add (j) 1) rfl ?_
                      refine X_goto (tgt := 26) C (D (116, .goto (-90), 3) (mg 57 rfl)) (by decide) ?_
                      refine X_eq (ls' := [some (.ref (wA w (m))), some (.int (nI (z0))), some (.int (c1)), some (.int (c2)), some (.int (c3)), some (.int (c4)), some (.int (c5)), some (.int (c6)), some (.int (nI (1))), some (.int (nI (j + 1)))]) (st' := []) (h' := h) (g' := g) rfl rfl rfl rfl ?_
                      exact ih26 (j + 1) (nI (1)) (by omega) (by decide) (fun _ => hz0) (by omega)
                · skip
                  have q6 : (j) = (2) := by have z := (nI_eq (a := (j)) (b := (2)) (by omega) (by omega)).mp q6; omega
                  refine X_iload C (D (74, .iload 4, 2) (mg 38 rfl)) rfl ?_
                  refine X_goto (tgt := 103) C (D (76, .goto 27, 3) (mg 39 rfl)) (by decide) ?_
                  refine X_icmp_ne (tgt := 110) C (D (103, .if_icmp .ne 7, 3) (mg 51 rfl)) (by decide) (fun q12 => ?_) (fun q12 => ?_)
                  · skip
                    refine X_iconst (v := nI (0)) C (D (110, .iconst 0, 1) (mg 54 rfl)) (by decide) ?_
                    refine X_istore (ls' := [some (.ref (wA w (m))), some (.int (nI (z0))), some (.int (c1)), some (.int (c2)), some (.int (c3)), some (.int (c4)), some (.int (c5)), some (.int (c6)), some (.int (nI (0))), some (.int (nI (j)))]) C (D (111, .istore 8, 2) (mg 55 rfl)) (Nat.le_of_ble_eq_true rfl) rfl ?_
                    refine X_iinc (v := nI (j + 1)) (ls' := [some (.ref (wA w (m))), some (.int (nI (z0))), some (.int (c1)), some (.int (c2)), some (.int (c3)), some (.int (c4)), some (.int (c5)), some (.int (c6)), some (.int (nI (0))), some (.int (nI (j + 1)))]) C (D (113, .iinc 9 1, 3) (mg 56 rfl)) rfl (nI_add (j) 1) rfl ?_
                    refine X_goto (tgt := 26) C (D (116, .goto (-90), 3) (mg 57 rfl)) (by decide) ?_
                    refine X_eq (ls' := [some (.ref (wA w (m))), some (.int (nI (z0))), some (.int (c1)), some (.int (c2)), some (.int (c3)), some (.int (c4)), some (.int (c5)), some (.int (c6)), some (.int (nI (0))), some (.int (nI (j + 1)))]) (st' := []) (h' := h) (g' := g) rfl rfl rfl rfl ?_
                    exact ih26 (j + 1) (nI (0)) (by omega) (by decide) (fun z => absurd rfl z) (by omega)
                  · skip
                    refine X_iconst (v := nI (1)) C (D (106, .iconst 1, 1) (mg 52 rfl)) (by decide) ?_
                    refine X_goto (tgt := 111) C (D (107, .goto 4, 3) (mg 53 rfl)) (by decide) ?_
                    refine X_istore (ls' := [some (.ref (wA w (m))), some (.int (nI (z0))), some (.int (c1)), some (.int (c2)), some (.int (c3)), some (.int (c4)), some (.int (c5)), some (.int (c6)), some (.int (nI (1))), some (.int (nI (j)))]) C (D (111, .istore 8, 2) (mg 55 rfl)) (Nat.le_of_ble_eq_true rfl) rfl ?_
                    refine X_iinc (v := nI (j + 1)) (ls' := [some (.ref (wA w (m))), some (.int (nI (z0))), some (.int (c1)), some (.int (c2)), some (.int (c3)), some (.int (c4)), some (.int (c5)), some (.int (c6)), some (.int (nI (1))), some (.int (nI (j + 1)))]) C (D (113, .iinc 9 1, 3) (mg 56 rfl)) rfl (nI_add (j) 1) rfl ?_
                    refine X_goto (tgt := 26) C (D (116, .goto (-90), 3) (mg 57 rfl)) (by decide) ?_
                    refine X_eq (ls' := [some (.ref (wA w (m))), some (.int (nI (z0))), some (.int (c1)), some (.int (c2)), some (.int (c3)), some (.int (c4)), some (.int (c5)), some (.int (c6)), some (.int (nI (1))), some (.int (nI (j + 1)))]) (st' := []) (h' := h) (g' := g) rfl rfl rfl rfl ?_
                    exact ih26 (j + 1) (nI (1)) (by omega) (by decide) (fun _ => hz0) (by omega)
              · skip
                have q5 : (j) = (1) := by have z := (nI_eq (a := (j)) (b := (1)) (by omega) (by omega)).mp q5; omega
                refine X_iload_n C 3 (D (64, .iload_n 3, 1) (mg 33 rfl)) rfl rfl ?_
                refine X_goto (tgt := 103) C (D (65, .goto 38, 3) (mg 34 rfl)) (by decide) ?_
                refine X_icmp_ne (tgt := 110) C (D (103, .if_icmp .ne 7, 3) (mg 51 rfl)) (by decide) (fun q13 => ?_) (fun q13 => ?_)
                · skip
                  refine X_iconst (v := nI (0)) C (D (110, .iconst 0, 1) (mg 54 rfl)) (by decide) ?_
                  refine X_istore (ls' := [some (.ref (wA w (m))), some (.int (nI (z0))), some (.int (c1)), some (.int (c2)), some (.int (c3)), some (.int (c4)), some (.int (c5)), some (.int (c6)), some (.int (nI (0))), some (.int (nI (j)))]) C (D (111, .istore 8, 2) (mg 55 rfl)) (Nat.le_of_ble_eq_true rfl) rfl ?_
                  refine X_iinc (v := nI (j + 1)) (ls' := [some (.ref (wA w (m))), some (.int (nI (z0))), some (.int (c1)), some (.int (c2)), some (.int (c3)), some (.int (c4)), some (.int (c5)), some (.int (c6)), some (.int (nI (0))), some (.int (nI (j + 1)))]) C (D (113, .iinc 9 1, 3) (mg 56 rfl)) rfl (nI_add (j) 1) rfl ?_
                  refine X_goto (tgt := 26) C (D (116, .goto (-90), 3) (mg 57 rfl)) (by decide) ?_
                  refine X_eq (ls' := [some (.ref (wA w (m))), some (.int (nI (z0))), some (.int (c1)), some (.int (c2)), some (.int (c3)), some (.int (c4)), some (.int (c5)), some (.int (c6)), some (.int (nI (0))), some (.int (nI (j + 1)))]) (st' := []) (h' := h) (g' := g) rfl rfl rfl rfl ?_
                  exact ih26 (j + 1) (nI (0)) (by omega) (by decide) (fun z => absurd rfl z) (by omega)
                · skip
                  refine X_iconst (v := nI (1)) C (D (106, .iconst 1, 1) (mg 52 rfl)) (by decide) ?_
                  refine X_goto (tgt := 111) C (D (107, .goto 4, 3) (mg 53 rfl)) (by decide) ?_
                  refine X_istore (ls' := [some (.ref (wA w (m))), some (.int (nI (z0))), some (.int (c1)), some (.int (c2)), some (.int (c3)), some (.int (c4)), some (.int (c5)), some (.int (c6)), some (.int (nI (1))), some (.int (nI (j)))]) C (D (111, .istore 8, 2) (mg 55 rfl)) (Nat.le_of_ble_eq_true rfl) rfl ?_
                  refine X_iinc (v := nI (j + 1)) (ls' := [some (.ref (wA w (m))), some (.int (nI (z0))), some (.int (c1)), some (.int (c2)), some (.int (c3)), some (.int (c4)), some (.int (c5)), some (.int (c6)), some (.int (nI (1))), some (.int (nI (j + 1)))]) C (D (113, .iinc 9 1, 3) (mg 56 rfl)) rfl (nI_add (j) 1) rfl ?_
                  refine X_goto (tgt := 26) C (D (116, .goto (-90), 3) (mg 57 rfl)) (by decide) ?_
                  refine X_eq (ls' := [some (.ref (wA w (m))), some (.int (nI (z0))), some (.int (c1)), some (.int (c2)), some (.int (c3)), some (.int (c4)), some (.int (c5)), some (.int (c6)), some (.int (nI (1))), some (.int (nI (j + 1)))]) (st' := []) (h' := h) (g' := g) rfl rfl rfl rfl ?_
                  exact ih26 (j + 1) (nI (1)) (by omega) (by decide) (fun _ => hz0) (by omega)
            · skip
              have q4 : (j) = (0) := by have z := (nI_eq (a := (j)) (b := (0)) (by omega) (by omega)).mp q4; omega
              refine X_iload_n C 2 (D (54, .iload_n 2, 1) (mg 28 rfl)) rfl rfl ?_
              refine X_goto (tgt := 103) C (D (55, .goto 48, 3) (mg 29 rfl)) (by decide) ?_
              refine X_icmp_ne (tgt := 110) C (D (103, .if_icmp .ne 7, 3) (mg 51 rfl)) (by decide) (fun q14 => ?_) (fun q14 => ?_)
              · skip
                refine X_iconst (v := nI (0)) C (D (110, .iconst 0, 1) (mg 54 rfl)) (by decide) ?_
                refine X_istore (ls' := [some (.ref (wA w (m))), some (.int (nI (z0))), some (.int (c1)), some (.int (c2)), some (.int (c3)), some (.int (c4)), some (.int (c5)), some (.int (c6)), some (.int (nI (0))), some (.int (nI (j)))]) C (D (111, .istore 8, 2) (mg 55 rfl)) (Nat.le_of_ble_eq_true rfl) rfl ?_
                refine X_iinc (v := nI (j + 1)) (ls' := [some (.ref (wA w (m))), some (.int (nI (z0))), some (.int (c1)), some (.int (c2)), some (.int (c3)), some (.int (c4)), some (.int (c5)), some (.int (c6)), some (.int (nI (0))), some (.int (nI (j + 1)))]) C (D (113, .iinc 9 1, 3) (mg 56 rfl)) rfl (nI_add (j) 1) rfl ?_
                refine X_goto (tgt := 26) C (D (116, .goto (-90), 3) (mg 57 rfl)) (by decide) ?_
                refine X_eq (ls' := [some (.ref (wA w (m))), some (.int (nI (z0))), some (.int (c1)), some (.int (c2)), some (.int (c3)), some (.int (c4)), some (.int (c5)), some (.int (c6)), some (.int (nI (0))), some (.int (nI (j + 1)))]) (st' := []) (h' := h) (g' := g) rfl rfl rfl rfl ?_
                exact ih26 (j + 1) (nI (0)) (by omega) (by decide) (fun z => absurd rfl z) (by omega)
              · skip
                refine X_iconst (v := nI (1)) C (D (106, .iconst 1, 1) (mg 52 rfl)) (by decide) ?_
                refine X_goto (tgt := 111) C (D (107, .goto 4, 3) (mg 53 rfl)) (by decide) ?_
                refine X_istore (ls' := [some (.ref (wA w (m))), some (.int (nI (z0))), some (.int (c1)), some (.int (c2)), some (.int (c3)), some (.int (c4)), some (.int (c5)), some (.int (c6)), some (.int (nI (1))), some (.int (nI (j)))]) C (D (111, .istore 8, 2) (mg 55 rfl)) (Nat.le_of_ble_eq_true rfl) rfl ?_
                refine X_iinc (v := nI (j + 1)) (ls' := [some (.ref (wA w (m))), some (.int (nI (z0))), some (.int (c1)), some (.int (c2)), some (.int (c3)), some (.int (c4)), some (.int (c5)), some (.int (c6)), some (.int (nI (1))), some (.int (nI (j + 1)))]) C (D (113, .iinc 9 1, 3) (mg 56 rfl)) rfl (nI_add (j) 1) rfl ?_
                refine X_goto (tgt := 26) C (D (116, .goto (-90), 3) (mg 57 rfl)) (by decide) ?_
                refine X_eq (ls' := [some (.ref (wA w (m))), some (.int (nI (z0))), some (.int (c1)), some (.int (c2)), some (.int (c3)), some (.int (c4)), some (.int (c5)), some (.int (c6)), some (.int (nI (1))), some (.int (nI (j + 1)))]) (st' := []) (h' := h) (g' := g) rfl rfl rfl rfl ?_
                exact ih26 (j + 1) (nI (1)) (by omega) (by decide) (fun _ => hz0) (by omega)
    refine X_eq (ls' := [some (.ref (wA w (m))), some (.int (nI (z0))), some (.int (c1)), some (.int (c2)), some (.int (c3)), some (.int (c4)), some (.int (c5)), some (.int (c6)), some (.int (nI (0))), some (.int (nI (0)))]) (st' := []) (h' := h) (g' := g) rfl rfl rfl rfl ?_
    exact lp26 _ (0) (nI (0)) (by omega) (by decide) (fun z => absurd rfl z) (Nat.le_refl _)
  · skip
    refine X_aload_n C 0 (D (8, .aload_n 0, 1) (mg 4 rfl)) rfl rfl ?_
    refine X_get (v := .int (h (m) 13)) C (m) 13 (by omega) hsm rfl rfl (by decide) inX8 fX8_253 rfl (D (9, .getfield 253, 3) (mg 5 rfl)) rfl ?_
    refine X_ti (y := nI (l0)) (el) ?_
    refine X_iload_n C 1 (D (12, .iload_n 1, 1) (mg 6 rfl)) rfl rfl ?_
    refine X_icmp_ne (tgt := 20) C (D (13, .if_icmp .ne 7, 3) (mg 7 rfl)) (by decide) (fun q15 => ?_) (fun q15 => ?_)
    · skip
      have q15 : (l0) ≠ (z0) := by have z : ¬ ((l0) = (z0)) := fun u => q15 ((nI_eq (a := (l0)) (b := (z0)) (by omega) (by omega)).mpr u); omega
      refine X_iconst (v := nI (0)) C (D (20, .iconst 0, 1) (mg 10 rfl)) (by decide) ?_
      refine X_istore (ls' := [some (.ref (wA w (m))), some (.int (nI (z0))), some (.int (c1)), some (.int (c2)), some (.int (c3)), some (.int (c4)), some (.int (c5)), some (.int (c6)), some (.int (nI (0))), none]) C (D (21, .istore 8, 2) (mg 11 rfl)) (Nat.le_of_ble_eq_true rfl) rfl ?_
      refine X_iconst (v := nI (0)) C (D (23, .iconst 0, 1) (mg 12 rfl)) (by decide) ?_
      refine X_istore (ls' := [some (.ref (wA w (m))), some (.int (nI (z0))), some (.int (c1)), some (.int (c2)), some (.int (c3)), some (.int (c4)), some (.int (c5)), some (.int (c6)), some (.int (nI (0))), some (.int (nI (0)))]) C (D (24, .istore 9, 2) (mg 13 rfl)) (Nat.le_of_ble_eq_true rfl) rfl ?_
      have lp26 : ∀ (nn26 : Nat) (j : Nat) (b8 : Int32), (j ≤ z0) → (b8 = 0 ∨ b8 = 1) → (¬ b8 = 0 → z0 = l0) → 7 - j ≤ nn26 → X k w (Zq k w (pP (fun y => y = 0 ∨ y = 1) h g)) 26 [some (.ref (wA w (m))), some (.int (nI (z0))), some (.int (c1)), some (.int (c2)), some (.int (c3)), some (.int (c4)), some (.int (c5)), some (.int (c6)), some (.int (b8)), some (.int (nI (j)))] [] h g := by
        intro nn26
        induction nn26 with
        | zero => intro j b8 hc26_0 hc26_1 hc26_2 hz; exact absurd hz (by omega)
        | succ nn26 ih26 =>
          intro j b8 hc26_0 hc26_1 hc26_2 hz26
          refine X_iload C (D (26, .iload 9, 2) (mg 14 rfl)) rfl ?_
          refine X_iload_n C 1 (D (28, .iload_n 1, 1) (mg 15 rfl)) rfl rfl ?_
          refine X_icmp_ge (tgt := 119) C (D (29, .if_icmp .ge 90, 3) (mg 16 rfl)) (by decide) (fun q16 => ?_) (fun q16 => ?_)
          · skip
            have q16 : (j) ≥ (z0) := by have z := (nI_leI (a := (z0)) (b := (j)) (by omega) (by omega)).mp q16; omega
            refine X_iload C (D (119, .iload 8, 2) (mg 58 rfl)) rfl ?_
            exact X_zret C (D (121, .ireturn, 1) (mg 59 rfl)) (nb_01 hc26_1) ⟨⟨_, rfl, hc26_1⟩, rfl, rfl⟩
          · skip
            have q16 : (j) < (z0) := by have z : ¬ ((z0) ≤ (j)) := fun u => q16 ((nI_leI (a := (z0)) (b := (j)) (by omega) (by omega)).mpr u); omega
            refine X_iload C (D (32, .iload 8, 2) (mg 17 rfl)) rfl ?_
            refine X_if_eq (tgt := 119) C (D (34, .ifCond .eq 85, 3) (mg 18 rfl)) (by decide) (fun q17 => ?_) (fun q17 => ?_)
            · skip
              refine X_iload C (D (119, .iload 8, 2) (mg 58 rfl)) rfl ?_
              exact X_zret C (D (121, .ireturn, 1) (mg 59 rfl)) (nb_01 hc26_1) ⟨⟨_, rfl, hc26_1⟩, rfl, rfl⟩
            · skip
              have hz0 : z0 = l0 := hc26_2 (by assumption)
              refine X_aload_n C 0 (D (37, .aload_n 0, 1) (mg 19 rfl)) rfl rfl ?_
              refine X_get (v := .ref (wA w (m + 9))) C (m) 10 (by omega) hsm rfl rfl (by decide) inX8 fX8_39 rfl (D (38, .getfield 39, 3) (mg 20 rfl)) rfl ?_
              refine X_aload_n C 0 (D (41, .aload_n 0, 1) (mg 21 rfl)) rfl rfl ?_
              refine X_get (v := .int (h (m) 12)) C (m) 12 (by omega) hsm rfl rfl (by decide) inX8 fX8_250 rfl (D (42, .getfield 250, 3) (mg 22 rfl)) rfl ?_
              refine X_ti (y := nI (a)) (ea) ?_
              refine X_iload C (D (45, .iload 9, 2) (mg 23 rfl)) rfl ?_
              refine X_iadd C (D (47, .iadd, 1) (mg 24 rfl)) ?_
              refine X_ti (y := nI (a + j)) (nI_add (a) (j)) ?_
              refine X_iald (v := h (m + 9) (a + j)) C (m + 9) (by omega) hs9 (vp_in_nI (by omega) (by omega)) (D (48, .iaload, 1) (mg 25 rfl)) (by rw [nI_clamp (by omega)]) ?_
              refine X_iload C (D (49, .iload 9, 2) (mg 26 rfl)) rfl ?_
              refine X_if_ne (tgt := 58) C (D (51, .ifCond .ne 7, 3) (mg 27 rfl)) (by decide) (fun q18 => ?_) (fun q18 => ?_)
              · skip
                have q18 : (j) ≠ (0) := by have z : ¬ ((j) = (0)) := fun u => q18 ((nI_eq (a := (j)) (b := (0)) (by omega) (by omega)).mpr u); omega
                refine X_iload C (D (58, .iload 9, 2) (mg 30 rfl)) rfl ?_
                refine X_iconst (v := nI (1)) C (D (60, .iconst 1, 1) (mg 31 rfl)) (by decide) ?_
                refine X_icmp_ne (tgt := 68) C (D (61, .if_icmp .ne 7, 3) (mg 32 rfl)) (by decide) (fun q19 => ?_) (fun q19 => ?_)
                · skip
                  have q19 : (j) ≠ (1) := by have z : ¬ ((j) = (1)) := fun u => q19 ((nI_eq (a := (j)) (b := (1)) (by omega) (by omega)).mpr u); omega
                  refine X_iload C (D (68, .iload 9, 2) (mg 35 rfl)) rfl ?_
                  refine X_iconst (v := nI (2)) C (D (70, .iconst 2, 1) (mg 36 rfl)) (by decide) ?_
                  refine X_icmp_ne (tgt := 79) C (D (71, .if_icmp .ne 8, 3) (mg 37 rfl)) (by decide) (fun q20 => ?_) (fun q20 => ?_)
                  · skip
                    have q20 : (j) ≠ (2) := by have z : ¬ ((j) = (2)) := fun u => q20 ((nI_eq (a := (j)) (b := (2)) (by omega) (by omega)).mpr u); omega
                    refine X_iload C (D (79, .iload 9, 2) (mg 40 rfl)) rfl ?_
                    refine X_iconst (v := nI (3)) C (D (81, .iconst 3, 1) (mg 41 rfl)) (by decide) ?_
                    refine X_icmp_ne (tgt := 90) C (D (82, .if_icmp .ne 8, 3) (mg 42 rfl)) (by decide) (fun q21 => ?_) (fun q21 => ?_)
                    · skip
                      have q21 : (j) ≠ (3) := by have z : ¬ ((j) = (3)) := fun u => q21 ((nI_eq (a := (j)) (b := (3)) (by omega) (by omega)).mpr u); omega
                      refine X_iload C (D (90, .iload 9, 2) (mg 45 rfl)) rfl ?_
                      refine X_iconst (v := nI (4)) C (D (92, .iconst 4, 1) (mg 46 rfl)) (by decide) ?_
                      refine X_icmp_ne (tgt := 101) C (D (93, .if_icmp .ne 8, 3) (mg 47 rfl)) (by decide) (fun q22 => ?_) (fun q22 => ?_)
                      · skip
                        have q22 : (j) ≠ (4) := by have z : ¬ ((j) = (4)) := fun u => q22 ((nI_eq (a := (j)) (b := (4)) (by omega) (by omega)).mpr u); omega
                        refine X_iload C (D (101, .iload 7, 2) (mg 50 rfl)) rfl ?_
                        refine X_icmp_ne (tgt := 110) C (D (103, .if_icmp .ne 7, 3) (mg 51 rfl)) (by decide) (fun q23 => ?_) (fun q23 => ?_)
                        · skip
                          refine X_iconst (v := nI (0)) C (D (110, .iconst 0, 1) (mg 54 rfl)) (by decide) ?_
                          refine X_istore (ls' := [some (.ref (wA w (m))), some (.int (nI (z0))), some (.int (c1)), some (.int (c2)), some (.int (c3)), some (.int (c4)), some (.int (c5)), some (.int (c6)), some (.int (nI (0))), some (.int (nI (j)))]) C (D (111, .istore 8, 2) (mg 55 rfl)) (Nat.le_of_ble_eq_true rfl) rfl ?_
                          refine X_iinc (v := nI (j + 1)) (ls' := [some (.ref (wA w (m))), some (.int (nI (z0))), some (.int (c1)), some (.int (c2)), some (.int (c3)), some (.int (c4)), some (.int (c5)), some (.int (c6)), some (.int (nI (0))), some (.int (nI (j + 1)))]) C (D (113, .iinc 9 1, 3) (mg 56 rfl)) rfl (nI_add (j) 1) rfl ?_
                          refine X_goto (tgt := 26) C (D (116, .goto (-90), 3) (mg 57 rfl)) (by decide) ?_
                          refine X_eq (ls' := [some (.ref (wA w (m))), some (.int (nI (z0))), some (.int (c1)), some (.int (c2)), some (.int (c3)), some (.int (c4)), some (.int (c5)), some (.int (c6)), some (.int (nI (0))), some (.int (nI (j + 1)))]) (st' := []) (h' := h) (g' := g) rfl rfl rfl rfl ?_
                          exact ih26 (j + 1) (nI (0)) (by omega) (by decide) (fun z => absurd rfl z) (by omega)
                        · skip
                          refine X_iconst (v := nI (1)) C (D (106, .iconst 1, 1) (mg 52 rfl)) (by decide) ?_
                          refine X_goto (tgt := 111) C (D (107, .goto 4, 3) (mg 53 rfl)) (by decide) ?_
                          refine X_istore (ls' := [some (.ref (wA w (m))), some (.int (nI (z0))), some (.int (c1)), some (.int (c2)), some (.int (c3)), some (.int (c4)), some (.int (c5)), some (.int (c6)), some (.int (nI (1))), some (.int (nI (j)))]) C (D (111, .istore 8, 2) (mg 55 rfl)) (Nat.le_of_ble_eq_true rfl) rfl ?_
                          refine X_iinc (v := nI (j + 1)) (ls' := [some (.ref (wA w (m))), some (.int (nI (z0))), some (.int (c1)), some (.int (c2)), some (.int (c3)), some (.int (c4)), some (.int (c5)), some (.int (c6)), some (.int (nI (1))), some (.int (nI (j + 1)))]) C (D (113, .iinc 9 1, 3) (mg 56 rfl)) rfl (nI_add (j) 1) rfl ?_
                          refine X_goto (tgt := 26) C (D (116, .goto (-90), 3) (mg 57 rfl)) (by decide) ?_
                          refine X_eq (ls' := [some (.ref (wA w (m))), some (.int (nI (z0))), some (.int (c1)), some (.int (c2)), some (.int (c3)), some (.int (c4)), some (.int (c5)), some (.int (c6)), some (.int (nI (1))), some (.int (nI (j + 1)))]) (st' := []) (h' := h) (g' := g) rfl rfl rfl rfl ?_
                          exact ih26 (j + 1) (nI (1)) (by omega) (by decide) (fun _ => hz0) (by omega)
                      · skip
                        have q22 : (j) = (4) := by have z := (nI_eq (a := (j)) (b := (4)) (by omega) (by omega)).mp q22; omega
                        refine X_iload C (D (96, .iload 6, 2) (mg 48 rfl)) rfl ?_
                        refine X_goto (tgt := 103) C (D (98, .goto 5, 3) (mg 49 rfl)) (by decide) ?_
                        refine X_icmp_ne (tgt := 110) C (D (103, .if_icmp .ne 7, 3) (mg 51 rfl)) (by decide) (fun q24 => ?_) (fun q24 => ?_)
                        · skip
                          refine X_iconst (v := nI (0)) C (D (110, .iconst 0, 1) (mg 54 rfl)) (by decide) ?_
                          refine X_istore (ls' := [some (.ref (wA w (m))), some (.int (nI (z0))), some (.int (c1)), some (.int (c2)), some (.int (c3)), some (.int (c4)), some (.int (c5)), some (.int (c6)), some (.int (nI (0))), some (.int (nI (j)))]) C (D (111, .istore 8, 2) (mg 55 rfl)) (Nat.le_of_ble_eq_true rfl) rfl ?_
                          refine X_iinc (v := nI (j + 1)) (ls' := [some (.ref (wA w (m))), some (.int (nI (z0))), some (.int (c1)), some (.int (c2)), some (.int (c3)), some (.int (c4)), some (.int (c5)), some (.int (c6)), some (.int (nI (0))), some (.int (nI (j + 1)))]) C (D (113, .iinc 9 1, 3) (mg 56 rfl)) rfl (nI_add (j) 1) rfl ?_
                          refine X_goto (tgt := 26) C (D (116, .goto (-90), 3) (mg 57 rfl)) (by decide) ?_
                          refine X_eq (ls' := [some (.ref (wA w (m))), some (.int (nI (z0))), some (.int (c1)), some (.int (c2)), some (.int (c3)), some (.int (c4)), some (.int (c5)), some (.int (c6)), some (.int (nI (0))), some (.int (nI (j + 1)))]) (st' := []) (h' := h) (g' := g) rfl rfl rfl rfl ?_
                          exact ih26 (j + 1) (nI (0)) (by omega) (by decide) (fun z => absurd rfl z) (by omega)
                        · skip
                          refine X_iconst (v := nI (1)) C (D (106, .iconst 1, 1) (mg 52 rfl)) (by decide) ?_
                          refine X_goto (tgt := 111) C (D (107, .goto 4, 3) (mg 53 rfl)) (by decide) ?_
                          refine X_istore (ls' := [some (.ref (wA w (m))), some (.int (nI (z0))), some (.int (c1)), some (.int (c2)), some (.int (c3)), some (.int (c4)), some (.int (c5)), some (.int (c6)), some (.int (nI (1))), some (.int (nI (j)))]) C (D (111, .istore 8, 2) (mg 55 rfl)) (Nat.le_of_ble_eq_true rfl) rfl ?_
                          refine X_iinc (v := nI (j + 1)) (ls' := [some (.ref (wA w (m))), some (.int (nI (z0))), some (.int (c1)), some (.int (c2)), some (.int (c3)), some (.int (c4)), some (.int (c5)), some (.int (c6)), some (.int (nI (1))), some (.int (nI (j + 1)))]) C (D (113, .iinc 9 1, 3) (mg 56 rfl)) rfl (nI_add (j) 1) rfl ?_
                          refine X_goto (tgt := 26) C (D (116, .goto (-90), 3) (mg 57 rfl)) (by decide) ?_
                          refine X_eq (ls' := [some (.ref (wA w (m))), some (.int (nI (z0))), some (.int (c1)), some (.int (c2)), some (.int (c3)), some (.int (c4)), some (.int (c5)), some (.int (c6)), some (.int (nI (1))), some (.int (nI (j + 1)))]) (st' := []) (h' := h) (g' := g) rfl rfl rfl rfl ?_
                          exact ih26 (j + 1) (nI (1)) (by omega) (by decide) (fun _ => hz0) (by omega)
                    · skip
                      have q21 : (j) = (3) := by have z := (nI_eq (a := (j)) (b := (3)) (by omega) (by omega)).mp q21; omega
                      refine X_iload C (D (85, .iload 5, 2) (mg 43 rfl)) rfl ?_
                      refine X_goto (tgt := 103) C (D (87, .goto 16, 3) (mg 44 rfl)) (by decide) ?_
                      refine X_icmp_ne (tgt := 110) C (D (103, .if_icmp .ne 7, 3) (mg 51 rfl)) (by decide) (fun q25 => ?_) (fun q25 => ?_)
                      · skip
                        refine X_iconst (v := nI (0)) C (D (110, .iconst 0, 1) (mg 54 rfl)) (by decide) ?_
                        refine X_istore (ls' := [some (.ref (wA w (m))), some (.int (nI (z0))), some (.int (c1)), some (.int (c2)), some (.int (c3)), some (.int (c4)), some (.int (c5)), some (.int (c6)), some (.int (nI (0))), some (.int (nI (j)))]) C (D (111, .istore 8, 2) (mg 55 rfl)) (Nat.le_of_ble_eq_true rfl) rfl ?_
                        refine X_iinc (v := nI (j + 1)) (ls' := [some (.ref (wA w (m))), some (.int (nI (z0))), some (.int (c1)), some (.int (c2)), some (.int (c3)), some (.int (c4)), some (.int (c5)), some (.int (c6)), some (.int (nI (0))), some (.int (nI (j + 1)))]) C (D (113, .iinc 9 1, 3) (mg 56 rfl)) rfl (nI_add (j) 1) rfl ?_
                        refine X_goto (tgt := 26) C (D (116, .goto (-90), 3) (mg 57 rfl)) (by decide) ?_
                        refine X_eq (ls' := [some (.ref (wA w (m))), some (.int (nI (z0))), some (.int (c1)), some (.int (c2)), some (.int (c3)), some (.int (c4)), some (.int (c5)), some (.int (c6)), some (.int (nI (0))), some (.int (nI (j + 1)))]) (st' := []) (h' := h) (g' := g) rfl rfl rfl rfl ?_
                        exact ih26 (j + 1) (nI (0)) (by omega) (by decide) (fun z => absurd rfl z) (by omega)
                      · skip
                        refine X_iconst (v := nI (1)) C (D (106, .iconst 1, 1) (mg 52 rfl)) (by decide) ?_
                        refine X_goto (tgt := 111) C (D (107, .goto 4, 3) (mg 53 rfl)) (by decide) ?_
                        refine X_istore (ls' := [some (.ref (wA w (m))), some (.int (nI (z0))), some (.int (c1)), some (.int (c2)), some (.int (c3)), some (.int (c4)), some (.int (c5)), some (.int (c6)), some (.int (nI (1))), some (.int (nI (j)))]) C (D (111, .istore 8, 2) (mg 55 rfl)) (Nat.le_of_ble_eq_true rfl) rfl ?_
                        refine X_iinc (v := nI (j + 1)) (ls' := [some (.ref (wA w (m))), some (.int (nI (z0))), some (.int (c1)), some (.int (c2)), some (.int (c3)), some (.int (c4)), some (.int (c5)), some (.int (c6)), some (.int (nI (1))), some (.int (nI (j + 1)))]) C (D (113, .iinc 9 1, 3) (mg 56 rfl)) rfl (nI_add (j) 1) rfl ?_
                        refine X_goto (tgt := 26) C (D (116, .goto (-90), 3) (mg 57 rfl)) (by decide) ?_
                        refine X_eq (ls' := [some (.ref (wA w (m))), some (.int (nI (z0))), some (.int (c1)), some (.int (c2)), some (.int (c3)), some (.int (c4)), some (.int (c5)), some (.int (c6)), some (.int (nI (1))), some (.int (nI (j + 1)))]) (st' := []) (h' := h) (g' := g) rfl rfl rfl rfl ?_
                        exact ih26 (j + 1) (nI (1)) (by omega) (by decide) (fun _ => hz0) (by omega)
                  · skip
                    have q20 : (j) = (2) := by have z := (nI_eq (a := (j)) (b := (2)) (by omega) (by omega)).mp q20; omega
                    refine X_iload C (D (74, .iload 4, 2) (mg 38 rfl)) rfl ?_
                    refine X_goto (tgt := 103) C (D (76, .goto 27, 3) (mg 39 rfl)) (by decide) ?_
                    refine X_icmp_ne (tgt := 110) C (D (103, .if_icmp .ne 7, 3) (mg 51 rfl)) (by decide) (fun q26 => ?_) (fun q26 => ?_)
                    · skip
                      refine X_iconst (v := nI (0)) C (D (110, .iconst 0, 1) (mg 54 rfl)) (by decide) ?_
                      refine X_istore (ls' := [some (.ref (wA w (m))), some (.int (nI (z0))), some (.int (c1)), some (.int (c2)), some (.int (c3)), some (.int (c4)), some (.int (c5)), some (.int (c6)), some (.int (nI (0))), some (.int (nI (j)))]) C (D (111, .istore 8, 2) (mg 55 rfl)) (Nat.le_of_ble_eq_true rfl) rfl ?_
                      refine X_iinc (v := nI (j + 1)) (ls' := [some (.ref (wA w (m))), some (.int (nI (z0))), some (.int (c1)), some (.int (c2)), some (.int (c3)), some (.int (c4)), some (.int (c5)), some (.int (c6)), some (.int (nI (0))), some (.int (nI (j + 1)))]) C (D (113, .iinc 9 1, 3) (mg 56 rfl)) rfl (nI_add (j) 1) rfl ?_
                      refine X_goto (tgt := 26) C (D (116, .goto (-90), 3) (mg 57 rfl)) (by decide) ?_
                      refine X_eq (ls' := [some (.ref (wA w (m))), some (.int (nI (z0))), some (.int (c1)), some (.int (c2)), some (.int (c3)), some (.int (c4)), some (.int (c5)), some (.int (c6)), some (.int (nI (0))), some (.int (nI (j + 1)))]) (st' := []) (h' := h) (g' := g) rfl rfl rfl rfl ?_
                      exact ih26 (j + 1) (nI (0)) (by omega) (by decide) (fun z => absurd rfl z) (by omega)
                    · skip
                      refine X_iconst (v := nI (1)) C (D (106, .iconst 1, 1) (mg 52 rfl)) (by decide) ?_
                      refine X_goto (tgt := 111) C (D (107, .goto 4, 3) (mg 53 rfl)) (by decide) ?_
                      refine X_istore (ls' := [some (.ref (wA w (m))), some (.int (nI (z0))), some (.int (c1)), some (.int (c2)), some (.int (c3)), some (.int (c4)), some (.int (c5)), some (.int (c6)), some (.int (nI (1))), some (.int (nI (j)))]) C (D (111, .istore 8, 2) (mg 55 rfl)) (Nat.le_of_ble_eq_true rfl) rfl ?_
                      refine X_iinc (v := nI (j + 1)) (ls' := [some (.ref (wA w (m))), some (.int (nI (z0))), some (.int (c1)), some (.int (c2)), some (.int (c3)), some (.int (c4)), some (.int (c5)), some (.int (c6)), some (.int (nI (1))), some (.int (nI (j + 1)))]) C (D (113, .iinc 9 1, 3) (mg 56 rfl)) rfl (nI_add (j) 1) rfl ?_
                      refine X_goto (tgt := 26) C (D (116, .goto (-90), 3) (mg 57 rfl)) (by decide) ?_
                      refine X_eq (ls' := [some (.ref (wA w (m))), some (.int (nI (z0))), some (.int (c1)), some (.int (c2)), some (.int (c3)), some (.int (c4)), some (.int (c5)), some (.int (c6)), some (.int (nI (1))), some (.int (nI (j + 1)))]) (st' := []) (h' := h) (g' := g) rfl rfl rfl rfl ?_
                      exact ih26 (j + 1) (nI (1)) (by omega) (by decide) (fun _ => hz0) (by omega)
                · skip
                  have q19 : (j) = (1) := by have z := (nI_eq (a := (j)) (b := (1)) (by omega) (by omega)).mp q19; omega
                  refine X_iload_n C 3 (D (64, .iload_n 3, 1) (mg 33 rfl)) rfl rfl ?_
                  refine X_goto (tgt := 103) C (D (65, .goto 38, 3) (mg 34 rfl)) (by decide) ?_
                  refine X_icmp_ne (tgt := 110) C (D (103, .if_icmp .ne 7, 3) (mg 51 rfl)) (by decide) (fun q27 => ?_) (fun q27 => ?_)
                  · skip
                    refine X_iconst (v := nI (0)) C (D (110, .iconst 0, 1) (mg 54 rfl)) (by decide) ?_
                    refine X_istore (ls' := [some (.ref (wA w (m))), some (.int (nI (z0))), some (.int (c1)), some (.int (c2)), some (.int (c3)), some (.int (c4)), some (.int (c5)), some (.int (c6)), some (.int (nI (0))), some (.int (nI (j)))]) C (D (111, .istore 8, 2) (mg 55 rfl)) (Nat.le_of_ble_eq_true rfl) rfl ?_
                    refine X_iinc (v := nI (j + 1)) (ls' := [some (.ref (wA w (m))), some (.int (nI (z0))), some (.int (c1)), some (.int (c2)), some (.int (c3)), some (.int (c4)), some (.int (c5)), some (.int (c6)), some (.int (nI (0))), some (.int (nI (j + 1)))]) C (D (113, .iinc 9 1, 3) (mg 56 rfl)) rfl (nI_add (j) 1) rfl ?_
                    refine X_goto (tgt := 26) C (D (116, .goto (-90), 3) (mg 57 rfl)) (by decide) ?_
                    refine X_eq (ls' := [some (.ref (wA w (m))), some (.int (nI (z0))), some (.int (c1)), some (.int (c2)), some (.int (c3)), some (.int (c4)), some (.int (c5)), some (.int (c6)), some (.int (nI (0))), some (.int (nI (j + 1)))]) (st' := []) (h' := h) (g' := g) rfl rfl rfl rfl ?_
                    exact ih26 (j + 1) (nI (0)) (by omega) (by decide) (fun z => absurd rfl z) (by omega)
                  · skip
                    refine X_iconst (v := nI (1)) C (D (106, .iconst 1, 1) (mg 52 rfl)) (by decide) ?_
                    refine X_goto (tgt := 111) C (D (107, .goto 4, 3) (mg 53 rfl)) (by decide) ?_
                    refine X_istore (ls' := [some (.ref (wA w (m))), some (.int (nI (z0))), some (.int (c1)), some (.int (c2)), some (.int (c3)), some (.int (c4)), some (.int (c5)), some (.int (c6)), some (.int (nI (1))), some (.int (nI (j)))]) C (D (111, .istore 8, 2) (mg 55 rfl)) (Nat.le_of_ble_eq_true rfl) rfl ?_
                    refine X_iinc (v := nI (j + 1)) (ls' := [some (.ref (wA w (m))), some (.int (nI (z0))), some (.int (c1)), some (.int (c2)), some (.int (c3)), some (.int (c4)), some (.int (c5)), some (.int (c6)), some (.int (nI (1))), some (.int (nI (j + 1)))]) C (D (113, .iinc 9 1, 3) (mg 56 rfl)) rfl (nI_add (j) 1) rfl ?_
                    refine X_goto (tgt := 26) C (D (116, .goto (-90), 3) (mg 57 rfl)) (by decide) ?_
                    refine X_eq (ls' := [some (.ref (wA w (m))), some (.int (nI (z0))), some (.int (c1)), some (.int (c2)), some (.int (c3)), some (.int (c4)), some (.int (c5)), some (.int (c6)), some (.int (nI (1))), some (.int (nI (j + 1)))]) (st' := []) (h' := h) (g' := g) rfl rfl rfl rfl ?_
                    exact ih26 (j + 1) (nI (1)) (by omega) (by decide) (fun _ => hz0) (by omega)
              · skip
                have q18 : (j) = (0) := by have z := (nI_eq (a := (j)) (b := (0)) (by omega) (by omega)).mp q18; omega
                refine X_iload_n C 2 (D (54, .iload_n 2, 1) (mg 28 rfl)) rfl rfl ?_
                refine X_goto (tgt := 103) C (D (55, .goto 48, 3) (mg 29 rfl)) (by decide) ?_
                refine X_icmp_ne (tgt := 110) C (D (103, .if_icmp .ne 7, 3) (mg 51 rfl)) (by decide) (fun q28 => ?_) (fun q28 => ?_)
                · skip
                  refine X_iconst (v := nI (0)) C (D (110, .iconst 0, 1) (mg 54 rfl)) (by decide) ?_
                  refine X_istore (ls' := [some (.ref (wA w (m))), some (.int (nI (z0))), some (.int (c1)), some (.int (c2)), some (.int (c3)), some (.int (c4)), some (.int (c5)), some (.int (c6)), some (.int (nI (0))), some (.int (nI (j)))]) C (D (111, .istore 8, 2) (mg 55 rfl)) (Nat.le_of_ble_eq_true rfl) rfl ?_
                  refine X_iinc (v := nI (j + 1)) (ls' := [some (.ref (wA w (m))), some (.int (nI (z0))), some (.int (c1)), some (.int (c2)), some (.int (c3)), some (.int (c4)), some (.int (c5)), some (.int (c6)), some (.int (nI (0))), some (.int (nI (j + 1)))]) C (D (113, .iinc 9 1, 3) (mg 56 rfl)) rfl (nI_add (j) 1) rfl ?_
                  refine X_goto (tgt := 26) C (D (116, .goto (-90), 3) (mg 57 rfl)) (by decide) ?_
                  refine X_eq (ls' := [some (.ref (wA w (m))), some (.int (nI (z0))), some (.int (c1)), some (.int (c2)), some (.int (c3)), some (.int (c4)), some (.int (c5)), some (.int (c6)), some (.int (nI (0))), some (.int (nI (j + 1)))]) (st' := []) (h' := h) (g' := g) rfl rfl rfl rfl ?_
                  exact ih26 (j + 1) (nI (0)) (by omega) (by decide) (fun z => absurd rfl z) (by omega)
                · skip
                  refine X_iconst (v := nI (1)) C (D (106, .iconst 1, 1) (mg 52 rfl)) (by decide) ?_
                  refine X_goto (tgt := 111) C (D (107, .goto 4, 3) (mg 53 rfl)) (by decide) ?_
                  refine X_istore (ls' := [some (.ref (wA w (m))), some (.int (nI (z0))), some (.int (c1)), some (.int (c2)), some (.int (c3)), some (.int (c4)), some (.int (c5)), some (.int (c6)), some (.int (nI (1))), some (.int (nI (j)))]) C (D (111, .istore 8, 2) (mg 55 rfl)) (Nat.le_of_ble_eq_true rfl) rfl ?_
                  refine X_iinc (v := nI (j + 1)) (ls' := [some (.ref (wA w (m))), some (.int (nI (z0))), some (.int (c1)), some (.int (c2)), some (.int (c3)), some (.int (c4)), some (.int (c5)), some (.int (c6)), some (.int (nI (1))), some (.int (nI (j + 1)))]) C (D (113, .iinc 9 1, 3) (mg 56 rfl)) rfl (nI_add (j) 1) rfl ?_
                  refine X_goto (tgt := 26) C (D (116, .goto (-90), 3) (mg 57 rfl)) (by decide) ?_
                  refine X_eq (ls' := [some (.ref (wA w (m))), some (.int (nI (z0))), some (.int (c1)), some (.int (c2)), some (.int (c3)), some (.int (c4)), some (.int (c5)), some (.int (c6)), some (.int (nI (1))), some (.int (nI (j + 1)))]) (st' := []) (h' := h) (g' := g) rfl rfl rfl rfl ?_
                  exact ih26 (j + 1) (nI (1)) (by omega) (by decide) (fun _ => hz0) (by omega)
      refine X_eq (ls' := [some (.ref (wA w (m))), some (.int (nI (z0))), some (.int (c1)), some (.int (c2)), some (.int (c3)), some (.int (c4)), some (.int (c5)), some (.int (c6)), some (.int (nI (0))), some (.int (nI (0)))]) (st' := []) (h' := h) (g' := g) rfl rfl rfl rfl ?_
      exact lp26 _ (0) (nI (0)) (by omega) (by decide) (fun z => absurd rfl z) (Nat.le_refl _)
    · skip
      have q15 : (l0) = (z0) := by have z := (nI_eq (a := (l0)) (b := (z0)) (by omega) (by omega)).mp q15; omega
      refine X_iconst (v := nI (1)) C (D (16, .iconst 1, 1) (mg 8 rfl)) (by decide) ?_
      refine X_goto (tgt := 21) C (D (17, .goto 4, 3) (mg 9 rfl)) (by decide) ?_
      refine X_istore (ls' := [some (.ref (wA w (m))), some (.int (nI (z0))), some (.int (c1)), some (.int (c2)), some (.int (c3)), some (.int (c4)), some (.int (c5)), some (.int (c6)), some (.int (nI (1))), none]) C (D (21, .istore 8, 2) (mg 11 rfl)) (Nat.le_of_ble_eq_true rfl) rfl ?_
      refine X_iconst (v := nI (0)) C (D (23, .iconst 0, 1) (mg 12 rfl)) (by decide) ?_
      refine X_istore (ls' := [some (.ref (wA w (m))), some (.int (nI (z0))), some (.int (c1)), some (.int (c2)), some (.int (c3)), some (.int (c4)), some (.int (c5)), some (.int (c6)), some (.int (nI (1))), some (.int (nI (0)))]) C (D (24, .istore 9, 2) (mg 13 rfl)) (Nat.le_of_ble_eq_true rfl) rfl ?_
      have lp26 : ∀ (nn26 : Nat) (j : Nat) (b8 : Int32), (j ≤ z0) → (b8 = 0 ∨ b8 = 1) → (¬ b8 = 0 → z0 = l0) → 7 - j ≤ nn26 → X k w (Zq k w (pP (fun y => y = 0 ∨ y = 1) h g)) 26 [some (.ref (wA w (m))), some (.int (nI (z0))), some (.int (c1)), some (.int (c2)), some (.int (c3)), some (.int (c4)), some (.int (c5)), some (.int (c6)), some (.int (b8)), some (.int (nI (j)))] [] h g := by
        intro nn26
        induction nn26 with
        | zero => intro j b8 hc26_0 hc26_1 hc26_2 hz; exact absurd hz (by omega)
        | succ nn26 ih26 =>
          intro j b8 hc26_0 hc26_1 hc26_2 hz26
          refine X_iload C (D (26, .iload 9, 2) (mg 14 rfl)) rfl ?_
          refine X_iload_n C 1 (D (28, .iload_n 1, 1) (mg 15 rfl)) rfl rfl ?_
          refine X_icmp_ge (tgt := 119) C (D (29, .if_icmp .ge 90, 3) (mg 16 rfl)) (by decide) (fun q29 => ?_) (fun q29 => ?_)
          · skip
            have q29 : (j) ≥ (z0) := by have z := (nI_leI (a := (z0)) (b := (j)) (by omega) (by omega)).mp q29; omega
            refine X_iload C (D (119, .iload 8, 2) (mg 58 rfl)) rfl ?_
            exact X_zret C (D (121, .ireturn, 1) (mg 59 rfl)) (nb_01 hc26_1) ⟨⟨_, rfl, hc26_1⟩, rfl, rfl⟩
          · skip
            have q29 : (j) < (z0) := by have z : ¬ ((z0) ≤ (j)) := fun u => q29 ((nI_leI (a := (z0)) (b := (j)) (by omega) (by omega)).mpr u); omega
            refine X_iload C (D (32, .iload 8, 2) (mg 17 rfl)) rfl ?_
            refine X_if_eq (tgt := 119) C (D (34, .ifCond .eq 85, 3) (mg 18 rfl)) (by decide) (fun q30 => ?_) (fun q30 => ?_)
            · skip
              refine X_iload C (D (119, .iload 8, 2) (mg 58 rfl)) rfl ?_
              exact X_zret C (D (121, .ireturn, 1) (mg 59 rfl)) (nb_01 hc26_1) ⟨⟨_, rfl, hc26_1⟩, rfl, rfl⟩
            · skip
              have hz0 : z0 = l0 := hc26_2 (by assumption)
              refine X_aload_n C 0 (D (37, .aload_n 0, 1) (mg 19 rfl)) rfl rfl ?_
              refine X_get (v := .ref (wA w (m + 9))) C (m) 10 (by omega) hsm rfl rfl (by decide) inX8 fX8_39 rfl (D (38, .getfield 39, 3) (mg 20 rfl)) rfl ?_
              refine X_aload_n C 0 (D (41, .aload_n 0, 1) (mg 21 rfl)) rfl rfl ?_
              refine X_get (v := .int (h (m) 12)) C (m) 12 (by omega) hsm rfl rfl (by decide) inX8 fX8_250 rfl (D (42, .getfield 250, 3) (mg 22 rfl)) rfl ?_
              refine X_ti (y := nI (a)) (ea) ?_
              refine X_iload C (D (45, .iload 9, 2) (mg 23 rfl)) rfl ?_
              refine X_iadd C (D (47, .iadd, 1) (mg 24 rfl)) ?_
              refine X_ti (y := nI (a + j)) (nI_add (a) (j)) ?_
              refine X_iald (v := h (m + 9) (a + j)) C (m + 9) (by omega) hs9 (vp_in_nI (by omega) (by omega)) (D (48, .iaload, 1) (mg 25 rfl)) (by rw [nI_clamp (by omega)]) ?_
              refine X_iload C (D (49, .iload 9, 2) (mg 26 rfl)) rfl ?_
              refine X_if_ne (tgt := 58) C (D (51, .ifCond .ne 7, 3) (mg 27 rfl)) (by decide) (fun q31 => ?_) (fun q31 => ?_)
              · skip
                have q31 : (j) ≠ (0) := by have z : ¬ ((j) = (0)) := fun u => q31 ((nI_eq (a := (j)) (b := (0)) (by omega) (by omega)).mpr u); omega
                refine X_iload C (D (58, .iload 9, 2) (mg 30 rfl)) rfl ?_
                refine X_iconst (v := nI (1)) C (D (60, .iconst 1, 1) (mg 31 rfl)) (by decide) ?_
                refine X_icmp_ne (tgt := 68) C (D (61, .if_icmp .ne 7, 3) (mg 32 rfl)) (by decide) (fun q32 => ?_) (fun q32 => ?_)
                · skip
                  have q32 : (j) ≠ (1) := by have z : ¬ ((j) = (1)) := fun u => q32 ((nI_eq (a := (j)) (b := (1)) (by omega) (by omega)).mpr u); omega
                  refine X_iload C (D (68, .iload 9, 2) (mg 35 rfl)) rfl ?_
                  refine X_iconst (v := nI (2)) C (D (70, .iconst 2, 1) (mg 36 rfl)) (by decide) ?_
                  refine X_icmp_ne (tgt := 79) C (D (71, .if_icmp .ne 8, 3) (mg 37 rfl)) (by decide) (fun q33 => ?_) (fun q33 => ?_)
                  · skip
                    have q33 : (j) ≠ (2) := by have z : ¬ ((j) = (2)) := fun u => q33 ((nI_eq (a := (j)) (b := (2)) (by omega) (by omega)).mpr u); omega
                    refine X_iload C (D (79, .iload 9, 2) (mg 40 rfl)) rfl ?_
                    refine X_iconst (v := nI (3)) C (D (81, .iconst 3, 1) (mg 41 rfl)) (by decide) ?_
                    refine X_icmp_ne (tgt := 90) C (D (82, .if_icmp .ne 8, 3) (mg 42 rfl)) (by decide) (fun q34 => ?_) (fun q34 => ?_)
                    · skip
                      have q34 : (j) ≠ (3) := by have z : ¬ ((j) = (3)) := fun u => q34 ((nI_eq (a := (j)) (b := (3)) (by omega) (by omega)).mpr u); omega
                      refine X_iload C (D (90, .iload 9, 2) (mg 45 rfl)) rfl ?_
                      refine X_iconst (v := nI (4)) C (D (92, .iconst 4, 1) (mg 46 rfl)) (by decide) ?_
                      refine X_icmp_ne (tgt := 101) C (D (93, .if_icmp .ne 8, 3) (mg 47 rfl)) (by decide) (fun q35 => ?_) (fun q35 => ?_)
                      · skip
                        have q35 : (j) ≠ (4) := by have z : ¬ ((j) = (4)) := fun u => q35 ((nI_eq (a := (j)) (b := (4)) (by omega) (by omega)).mpr u); omega
                        refine X_iload C (D (101, .iload 7, 2) (mg 50 rfl)) rfl ?_
                        refine X_icmp_ne (tgt := 110) C (D (103, .if_icmp .ne 7, 3) (mg 51 rfl)) (by decide) (fun q36 => ?_) (fun q36 => ?_)
                        · skip
                          refine X_iconst (v := nI (0)) C (D (110, .iconst 0, 1) (mg 54 rfl)) (by decide) ?_
                          refine X_istore (ls' := [some (.ref (wA w (m))), some (.int (nI (z0))), some (.int (c1)), some (.int (c2)), some (.int (c3)), some (.int (c4)), some (.int (c5)), some (.int (c6)), some (.int (nI (0))), some (.int (nI (j)))]) C (D (111, .istore 8, 2) (mg 55 rfl)) (Nat.le_of_ble_eq_true rfl) rfl ?_
                          refine X_iinc (v := nI (j + 1)) (ls' := [some (.ref (wA w (m))), some (.int (nI (z0))), some (.int (c1)), some (.int (c2)), some (.int (c3)), some (.int (c4)), some (.int (c5)), some (.int (c6)), some (.int (nI (0))), some (.int (nI (j + 1)))]) C (D (113, .iinc 9 1, 3) (mg 56 rfl)) rfl (nI_add (j) 1) rfl ?_
                          refine X_goto (tgt := 26) C (D (116, .goto (-90), 3) (mg 57 rfl)) (by decide) ?_
                          refine X_eq (ls' := [some (.ref (wA w (m))), some (.int (nI (z0))), some (.int (c1)), some (.int (c2)), some (.int (c3)), some (.int (c4)), some (.int (c5)), some (.int (c6)), some (.int (nI (0))), some (.int (nI (j + 1)))]) (st' := []) (h' := h) (g' := g) rfl rfl rfl rfl ?_
                          exact ih26 (j + 1) (nI (0)) (by omega) (by decide) (fun z => absurd rfl z) (by omega)
                        · skip
                          refine X_iconst (v := nI (1)) C (D (106, .iconst 1, 1) (mg 52 rfl)) (by decide) ?_
                          refine X_goto (tgt := 111) C (D (107, .goto 4, 3) (mg 53 rfl)) (by decide) ?_
                          refine X_istore (ls' := [some (.ref (wA w (m))), some (.int (nI (z0))), some (.int (c1)), some (.int (c2)), some (.int (c3)), some (.int (c4)), some (.int (c5)), some (.int (c6)), some (.int (nI (1))), some (.int (nI (j)))]) C (D (111, .istore 8, 2) (mg 55 rfl)) (Nat.le_of_ble_eq_true rfl) rfl ?_
                          refine X_iinc (v := nI (j + 1)) (ls' := [some (.ref (wA w (m))), some (.int (nI (z0))), some (.int (c1)), some (.int (c2)), some (.int (c3)), some (.int (c4)), some (.int (c5)), some (.int (c6)), some (.int (nI (1))), some (.int (nI (j + 1)))]) C (D (113, .iinc 9 1, 3) (mg 56 rfl)) rfl (nI_add (j) 1) rfl ?_
                          refine X_goto (tgt := 26) C (D (116, .goto (-90), 3) (mg 57 rfl)) (by decide) ?_
                          refine X_eq (ls' := [some (.ref (wA w (m))), some (.int (nI (z0))), some (.int (c1)), some (.int (c2)), some (.int (c3)), some (.int (c4)), some (.int (c5)), some (.int (c6)), some (.int (nI (1))), some (.int (nI (j + 1)))]) (st' := []) (h' := h) (g' := g) rfl rfl rfl rfl ?_
                          exact ih26 (j + 1) (nI (1)) (by omega) (by decide) (fun _ => hz0) (by omega)
                      · skip
                        have q35 : (j) = (4) := by have z := (nI_eq (a := (j)) (b := (4)) (by omega) (by omega)).mp q35; omega
                        refine X_iload C (D (96, .iload 6, 2) (mg 48 rfl)) rfl ?_
                        refine X_goto (tgt := 103) C (D (98, .goto 5, 3) (mg 49 rfl)) (by decide) ?_
                        refine X_icmp_ne (tgt := 110) C (D (103, .if_icmp .ne 7, 3) (mg 51 rfl)) (by decide) (fun q37 => ?_) (fun q37 => ?_)
                        · skip
                          refine X_iconst (v := nI (0)) C (D (110, .iconst 0, 1) (mg 54 rfl)) (by decide) ?_
                          refine X_istore (ls' := [some (.ref (wA w (m))), some (.int (nI (z0))), some (.int (c1)), some (.int (c2)), some (.int (c3)), some (.int (c4)), some (.int (c5)), some (.int (c6)), some (.int (nI (0))), some (.int (nI (j)))]) C (D (111, .istore 8, 2) (mg 55 rfl)) (Nat.le_of_ble_eq_true rfl) rfl ?_
                          refine X_iinc (v := nI (j + 1)) (ls' := [some (.ref (wA w (m))), some (.int (nI (z0))), some (.int (c1)), some (.int (c2)), some (.int (c3)), some (.int (c4)), some (.int (c5)), some (.int (c6)), some (.int (nI (0))), some (.int (nI (j + 1)))]) C (D (113, .iinc 9 1, 3) (mg 56 rfl)) rfl (nI_add (j) 1) rfl ?_
                          refine X_goto (tgt := 26) C (D (116, .goto (-90), 3) (mg 57 rfl)) (by decide) ?_
                          refine X_eq (ls' := [some (.ref (wA w (m))), some (.int (nI (z0))), some (.int (c1)), some (.int (c2)), some (.int (c3)), some (.int (c4)), some (.int (c5)), some (.int (c6)), some (.int (nI (0))), some (.int (nI (j + 1)))]) (st' := []) (h' := h) (g' := g) rfl rfl rfl rfl ?_
                          exact ih26 (j + 1) (nI (0)) (by omega) (by decide) (fun z => absurd rfl z) (by omega)
                        · skip
                          refine X_iconst (v := nI (1)) C (D (106, .iconst 1, 1) (mg 52 rfl)) (by decide) ?_
                          refine X_goto (tgt := 111) C (D (107, .goto 4, 3) (mg 53 rfl)) (by decide) ?_
                          refine X_istore (ls' := [some (.ref (wA w (m))), some (.int (nI (z0))), some (.int (c1)), some (.int (c2)), some (.int (c3)), some (.int (c4)), some (.int (c5)), some (.int (c6)), some (.int (nI (1))), some (.int (nI (j)))]) C (D (111, .istore 8, 2) (mg 55 rfl)) (Nat.le_of_ble_eq_true rfl) rfl ?_
                          refine X_iinc (v := nI (j + 1)) (ls' := [some (.ref (wA w (m))), some (.int (nI (z0))), some (.int (c1)), some (.int (c2)), some (.int (c3)), some (.int (c4)), some (.int (c5)), some (.int (c6)), some (.int (nI (1))), some (.int (nI (j + 1)))]) C (D (113, .iinc 9 1, 3) (mg 56 rfl)) rfl (nI_add (j) 1) rfl ?_
                          refine X_goto (tgt := 26) C (D (116, .goto (-90), 3) (mg 57 rfl)) (by decide) ?_
                          refine X_eq (ls' := [some (.ref (wA w (m))), some (.int (nI (z0))), some (.int (c1)), some (.int (c2)), some (.int (c3)), some (.int (c4)), some (.int (c5)), some (.int (c6)), some (.int (nI (1))), some (.int (nI (j + 1)))]) (st' := []) (h' := h) (g' := g) rfl rfl rfl rfl ?_
                          exact ih26 (j + 1) (nI (1)) (by omega) (by decide) (fun _ => hz0) (by omega)
                    · skip
                      have q34 : (j) = (3) := by have z := (nI_eq (a := (j)) (b := (3)) (by omega) (by omega)).mp q34; omega
                      refine X_iload C (D (85, .iload 5, 2) (mg 43 rfl)) rfl ?_
                      refine X_goto (tgt := 103) C (D (87, .goto 16, 3) (mg 44 rfl)) (by decide) ?_
                      refine X_icmp_ne (tgt := 110) C (D (103, .if_icmp .ne 7, 3) (mg 51 rfl)) (by decide) (fun q38 => ?_) (fun q38 => ?_)
                      · skip
                        refine X_iconst (v := nI (0)) C (D (110, .iconst 0, 1) (mg 54 rfl)) (by decide) ?_
                        refine X_istore (ls' := [some (.ref (wA w (m))), some (.int (nI (z0))), some (.int (c1)), some (.int (c2)), some (.int (c3)), some (.int (c4)), some (.int (c5)), some (.int (c6)), some (.int (nI (0))), some (.int (nI (j)))]) C (D (111, .istore 8, 2) (mg 55 rfl)) (Nat.le_of_ble_eq_true rfl) rfl ?_
                        refine X_iinc (v := nI (j + 1)) (ls' := [some (.ref (wA w (m))), some (.int (nI (z0))), some (.int (c1)), some (.int (c2)), some (.int (c3)), some (.int (c4)), some (.int (c5)), some (.int (c6)), some (.int (nI (0))), some (.int (nI (j + 1)))]) C (D (113, .iinc 9 1, 3) (mg 56 rfl)) rfl (nI_add (j) 1) rfl ?_
                        refine X_goto (tgt := 26) C (D (116, .goto (-90), 3) (mg 57 rfl)) (by decide) ?_
                        refine X_eq (ls' := [some (.ref (wA w (m))), some (.int (nI (z0))), some (.int (c1)), some (.int (c2)), some (.int (c3)), some (.int (c4)), some (.int (c5)), some (.int (c6)), some (.int (nI (0))), some (.int (nI (j + 1)))]) (st' := []) (h' := h) (g' := g) rfl rfl rfl rfl ?_
                        exact ih26 (j + 1) (nI (0)) (by omega) (by decide) (fun z => absurd rfl z) (by omega)
                      · skip
                        refine X_iconst (v := nI (1)) C (D (106, .iconst 1, 1) (mg 52 rfl)) (by decide) ?_
                        refine X_goto (tgt := 111) C (D (107, .goto 4, 3) (mg 53 rfl)) (by decide) ?_
                        refine X_istore (ls' := [some (.ref (wA w (m))), some (.int (nI (z0))), some (.int (c1)), some (.int (c2)), some (.int (c3)), some (.int (c4)), some (.int (c5)), some (.int (c6)), some (.int (nI (1))), some (.int (nI (j)))]) C (D (111, .istore 8, 2) (mg 55 rfl)) (Nat.le_of_ble_eq_true rfl) rfl ?_
                        refine X_iinc (v := nI (j + 1)) (ls' := [some (.ref (wA w (m))), some (.int (nI (z0))), some (.int (c1)), some (.int (c2)), some (.int (c3)), some (.int (c4)), some (.int (c5)), some (.int (c6)), some (.int (nI (1))), some (.int (nI (j + 1)))]) C (D (113, .iinc 9 1, 3) (mg 56 rfl)) rfl (nI_add (j) 1) rfl ?_
                        refine X_goto (tgt := 26) C (D (116, .goto (-90), 3) (mg 57 rfl)) (by decide) ?_
                        refine X_eq (ls' := [some (.ref (wA w (m))), some (.int (nI (z0))), some (.int (c1)), some (.int (c2)), some (.int (c3)), some (.int (c4)), some (.int (c5)), some (.int (c6)), some (.int (nI (1))), some (.int (nI (j + 1)))]) (st' := []) (h' := h) (g' := g) rfl rfl rfl rfl ?_
                        exact ih26 (j + 1) (nI (1)) (by omega) (by decide) (fun _ => hz0) (by omega)
                  · skip
                    have q33 : (j) = (2) := by have z := (nI_eq (a := (j)) (b := (2)) (by omega) (by omega)).mp q33; omega
                    refine X_iload C (D (74, .iload 4, 2) (mg 38 rfl)) rfl ?_
                    refine X_goto (tgt := 103) C (D (76, .goto 27, 3) (mg 39 rfl)) (by decide) ?_
                    refine X_icmp_ne (tgt := 110) C (D (103, .if_icmp .ne 7, 3) (mg 51 rfl)) (by decide) (fun q39 => ?_) (fun q39 => ?_)
                    · skip
                      refine X_iconst (v := nI (0)) C (D (110, .iconst 0, 1) (mg 54 rfl)) (by decide) ?_
                      refine X_istore (ls' := [some (.ref (wA w (m))), some (.int (nI (z0))), some (.int (c1)), some (.int (c2)), some (.int (c3)), some (.int (c4)), some (.int (c5)), some (.int (c6)), some (.int (nI (0))), some (.int (nI (j)))]) C (D (111, .istore 8, 2) (mg 55 rfl)) (Nat.le_of_ble_eq_true rfl) rfl ?_
                      refine X_iinc (v := nI (j + 1)) (ls' := [some (.ref (wA w (m))), some (.int (nI (z0))), some (.int (c1)), some (.int (c2)), some (.int (c3)), some (.int (c4)), some (.int (c5)), some (.int (c6)), some (.int (nI (0))), some (.int (nI (j + 1)))]) C (D (113, .iinc 9 1, 3) (mg 56 rfl)) rfl (nI_add (j) 1) rfl ?_
                      refine X_goto (tgt := 26) C (D (116, .goto (-90), 3) (mg 57 rfl)) (by decide) ?_
                      refine X_eq (ls' := [some (.ref (wA w (m))), some (.int (nI (z0))), some (.int (c1)), some (.int (c2)), some (.int (c3)), some (.int (c4)), some (.int (c5)), some (.int (c6)), some (.int (nI (0))), some (.int (nI (j + 1)))]) (st' := []) (h' := h) (g' := g) rfl rfl rfl rfl ?_
                      exact ih26 (j + 1) (nI (0)) (by omega) (by decide) (fun z => absurd rfl z) (by omega)
                    · skip
                      refine X_iconst (v := nI (1)) C (D (106, .iconst 1, 1) (mg 52 rfl)) (by decide) ?_
                      refine X_goto (tgt := 111) C (D (107, .goto 4, 3) (mg 53 rfl)) (by decide) ?_
                      refine X_istore (ls' := [some (.ref (wA w (m))), some (.int (nI (z0))), some (.int (c1)), some (.int (c2)), some (.int (c3)), some (.int (c4)), some (.int (c5)), some (.int (c6)), some (.int (nI (1))), some (.int (nI (j)))]) C (D (111, .istore 8, 2) (mg 55 rfl)) (Nat.le_of_ble_eq_true rfl) rfl ?_
                      refine X_iinc (v := nI (j + 1)) (ls' := [some (.ref (wA w (m))), some (.int (nI (z0))), some (.int (c1)), some (.int (c2)), some (.int (c3)), some (.int (c4)), some (.int (c5)), some (.int (c6)), some (.int (nI (1))), some (.int (nI (j + 1)))]) C (D (113, .iinc 9 1, 3) (mg 56 rfl)) rfl (nI_add (j) 1) rfl ?_
                      refine X_goto (tgt := 26) C (D (116, .goto (-90), 3) (mg 57 rfl)) (by decide) ?_
                      refine X_eq (ls' := [some (.ref (wA w (m))), some (.int (nI (z0))), some (.int (c1)), some (.int (c2)), some (.int (c3)), some (.int (c4)), some (.int (c5)), some (.int (c6)), some (.int (nI (1))), some (.int (nI (j + 1)))]) (st' := []) (h' := h) (g' := g) rfl rfl rfl rfl ?_
                      exact ih26 (j + 1) (nI (1)) (by omega) (by decide) (fun _ => hz0) (by omega)
                · skip
                  have q32 : (j) = (1) := by have z := (nI_eq (a := (j)) (b := (1)) (by omega) (by omega)).mp q32; omega
                  refine X_iload_n C 3 (D (64, .iload_n 3, 1) (mg 33 rfl)) rfl rfl ?_
                  refine X_goto (tgt := 103) C (D (65, .goto 38, 3) (mg 34 rfl)) (by decide) ?_
                  refine X_icmp_ne (tgt := 110) C (D (103, .if_icmp .ne 7, 3) (mg 51 rfl)) (by decide) (fun q40 => ?_) (fun q40 => ?_)
                  · skip
                    refine X_iconst (v := nI (0)) C (D (110, .iconst 0, 1) (mg 54 rfl)) (by decide) ?_
                    refine X_istore (ls' := [some (.ref (wA w (m))), some (.int (nI (z0))), some (.int (c1)), some (.int (c2)), some (.int (c3)), some (.int (c4)), some (.int (c5)), some (.int (c6)), some (.int (nI (0))), some (.int (nI (j)))]) C (D (111, .istore 8, 2) (mg 55 rfl)) (Nat.le_of_ble_eq_true rfl) rfl ?_
                    refine X_iinc (v := nI (j + 1)) (ls' := [some (.ref (wA w (m))), some (.int (nI (z0))), some (.int (c1)), some (.int (c2)), some (.int (c3)), some (.int (c4)), some (.int (c5)), some (.int (c6)), some (.int (nI (0))), some (.int (nI (j + 1)))]) C (D (113, .iinc 9 1, 3) (mg 56 rfl)) rfl (nI_add (j) 1) rfl ?_
                    refine X_goto (tgt := 26) C (D (116, .goto (-90), 3) (mg 57 rfl)) (by decide) ?_
                    refine X_eq (ls' := [some (.ref (wA w (m))), some (.int (nI (z0))), some (.int (c1)), some (.int (c2)), some (.int (c3)), some (.int (c4)), some (.int (c5)), some (.int (c6)), some (.int (nI (0))), some (.int (nI (j + 1)))]) (st' := []) (h' := h) (g' := g) rfl rfl rfl rfl ?_
                    exact ih26 (j + 1) (nI (0)) (by omega) (by decide) (fun z => absurd rfl z) (by omega)
                  · skip
                    refine X_iconst (v := nI (1)) C (D (106, .iconst 1, 1) (mg 52 rfl)) (by decide) ?_
                    refine X_goto (tgt := 111) C (D (107, .goto 4, 3) (mg 53 rfl)) (by decide) ?_
                    refine X_istore (ls' := [some (.ref (wA w (m))), some (.int (nI (z0))), some (.int (c1)), some (.int (c2)), some (.int (c3)), some (.int (c4)), some (.int (c5)), some (.int (c6)), some (.int (nI (1))), some (.int (nI (j)))]) C (D (111, .istore 8, 2) (mg 55 rfl)) (Nat.le_of_ble_eq_true rfl) rfl ?_
                    refine X_iinc (v := nI (j + 1)) (ls' := [some (.ref (wA w (m))), some (.int (nI (z0))), some (.int (c1)), some (.int (c2)), some (.int (c3)), some (.int (c4)), some (.int (c5)), some (.int (c6)), some (.int (nI (1))), some (.int (nI (j + 1)))]) C (D (113, .iinc 9 1, 3) (mg 56 rfl)) rfl (nI_add (j) 1) rfl ?_
                    refine X_goto (tgt := 26) C (D (116, .goto (-90), 3) (mg 57 rfl)) (by decide) ?_
                    refine X_eq (ls' := [some (.ref (wA w (m))), some (.int (nI (z0))), some (.int (c1)), some (.int (c2)), some (.int (c3)), some (.int (c4)), some (.int (c5)), some (.int (c6)), some (.int (nI (1))), some (.int (nI (j + 1)))]) (st' := []) (h' := h) (g' := g) rfl rfl rfl rfl ?_
                    exact ih26 (j + 1) (nI (1)) (by omega) (by decide) (fun _ => hz0) (by omega)
              · skip
                have q31 : (j) = (0) := by have z := (nI_eq (a := (j)) (b := (0)) (by omega) (by omega)).mp q31; omega
                refine X_iload_n C 2 (D (54, .iload_n 2, 1) (mg 28 rfl)) rfl rfl ?_
                refine X_goto (tgt := 103) C (D (55, .goto 48, 3) (mg 29 rfl)) (by decide) ?_
                refine X_icmp_ne (tgt := 110) C (D (103, .if_icmp .ne 7, 3) (mg 51 rfl)) (by decide) (fun q41 => ?_) (fun q41 => ?_)
                · skip
                  refine X_iconst (v := nI (0)) C (D (110, .iconst 0, 1) (mg 54 rfl)) (by decide) ?_
                  refine X_istore (ls' := [some (.ref (wA w (m))), some (.int (nI (z0))), some (.int (c1)), some (.int (c2)), some (.int (c3)), some (.int (c4)), some (.int (c5)), some (.int (c6)), some (.int (nI (0))), some (.int (nI (j)))]) C (D (111, .istore 8, 2) (mg 55 rfl)) (Nat.le_of_ble_eq_true rfl) rfl ?_
                  refine X_iinc (v := nI (j + 1)) (ls' := [some (.ref (wA w (m))), some (.int (nI (z0))), some (.int (c1)), some (.int (c2)), some (.int (c3)), some (.int (c4)), some (.int (c5)), some (.int (c6)), some (.int (nI (0))), some (.int (nI (j + 1)))]) C (D (113, .iinc 9 1, 3) (mg 56 rfl)) rfl (nI_add (j) 1) rfl ?_
                  refine X_goto (tgt := 26) C (D (116, .goto (-90), 3) (mg 57 rfl)) (by decide) ?_
                  refine X_eq (ls' := [some (.ref (wA w (m))), some (.int (nI (z0))), some (.int (c1)), some (.int (c2)), some (.int (c3)), some (.int (c4)), some (.int (c5)), some (.int (c6)), some (.int (nI (0))), some (.int (nI (j + 1)))]) (st' := []) (h' := h) (g' := g) rfl rfl rfl rfl ?_
                  exact ih26 (j + 1) (nI (0)) (by omega) (by decide) (fun z => absurd rfl z) (by omega)
                · skip
                  refine X_iconst (v := nI (1)) C (D (106, .iconst 1, 1) (mg 52 rfl)) (by decide) ?_
                  refine X_goto (tgt := 111) C (D (107, .goto 4, 3) (mg 53 rfl)) (by decide) ?_
                  refine X_istore (ls' := [some (.ref (wA w (m))), some (.int (nI (z0))), some (.int (c1)), some (.int (c2)), some (.int (c3)), some (.int (c4)), some (.int (c5)), some (.int (c6)), some (.int (nI (1))), some (.int (nI (j)))]) C (D (111, .istore 8, 2) (mg 55 rfl)) (Nat.le_of_ble_eq_true rfl) rfl ?_
                  refine X_iinc (v := nI (j + 1)) (ls' := [some (.ref (wA w (m))), some (.int (nI (z0))), some (.int (c1)), some (.int (c2)), some (.int (c3)), some (.int (c4)), some (.int (c5)), some (.int (c6)), some (.int (nI (1))), some (.int (nI (j + 1)))]) C (D (113, .iinc 9 1, 3) (mg 56 rfl)) rfl (nI_add (j) 1) rfl ?_
                  refine X_goto (tgt := 26) C (D (116, .goto (-90), 3) (mg 57 rfl)) (by decide) ?_
                  refine X_eq (ls' := [some (.ref (wA w (m))), some (.int (nI (z0))), some (.int (c1)), some (.int (c2)), some (.int (c3)), some (.int (c4)), some (.int (c5)), some (.int (c6)), some (.int (nI (1))), some (.int (nI (j + 1)))]) (st' := []) (h' := h) (g' := g) rfl rfl rfl rfl ?_
                  exact ih26 (j + 1) (nI (1)) (by omega) (by decide) (fun _ => hz0) (by omega)
      refine X_eq (ls' := [some (.ref (wA w (m))), some (.int (nI (z0))), some (.int (c1)), some (.int (c2)), some (.int (c3)), some (.int (c4)), some (.int (c5)), some (.int (c6)), some (.int (nI (1))), some (.int (nI (0)))]) (st' := []) (h' := h) (g' := g) rfl rfl rfl rfl ?_
      exact lp26 _ (0) (nI (1)) (by omega) (by decide) (fun _ => by omega) (Nat.le_refl _)
set_option maxHeartbeats 4000000 in
set_option maxRecDepth 100000 in
theorem ct_X8_takes {l : Launch} {w : Kw} (hw : wOk w) {m : Nat} (hM : shM w m) {n a l0 : Nat} (hn : n ≤ 150) (hal : a + l0 ≤ n) {K A B : Nat} (hK : K < 2) (hAB : A < 2147483648 ∧ B < 2147483647) (h : xI) (g : xJ) (hb : h m 11 = nI n) (ea : h m 12 = nI a) (el : h m 13 = nI l0) (hd : h m 14 = 0 ∨ 1 ≤ l0) : Ct l w yX8_takes cX8_takes 4 (some .boolean) 4 89 [.ref (wA w (m)), .int (nI (K)), .int (nI (A)), .int (nI (B))] h g (pB (fun y h' => (∀ q i, (q ≠ m ∨ i < 12 ∨ 15 < i) → (q ≠ m + 11 ∨ i ≠ K) → h' q i = h q i) ∧ mT h' m n a ∧ (¬ y = 0 → ∃ j, A ≤ j ∧ j ≤ B ∧ h' (m + 11) K = nI j))) := by
  refine Ct_of (ls := [some (.ref (wA w (m))), some (.int (nI (K))), some (.int (nI (A))), some (.int (nI (B)))]) (by decide) hw (Nat.le_of_ble_eq_true rfl) rfl (fun k hkl C => ?_)
  have C : Cx k w cX8_takes RX8 4 (some .boolean) 4 89 := C
  have D := dtX8_takes
  subst hkl
  have hM0 := hM
  obtain ⟨hm, hsm, hs1, hs2, hs3, hs4, hs5, hs6, hs7, hs8, hs9, hs10, hs11⟩ := hM
  have hM := hM0
  refine X_aload_n C 0 (D (0, .aload_n 0, 1) (mg 0 rfl)) rfl rfl ?_
  refine X_get (v := .int (h (m) 14)) C (m) 14 (by omega) hsm rfl rfl (by decide) inX8 fX8_256 rfl (D (1, .getfield 256, 3) (mg 1 rfl)) rfl ?_
  refine X_iconst (v := nI (2)) C (D (4, .iconst 2, 1) (mg 2 rfl)) (by decide) ?_
  refine X_icmp_ne (tgt := 23) C (D (5, .if_icmp .ne 18, 3) (mg 3 rfl)) (by decide) (fun q1 => ?_) (fun q1 => ?_)
  · skip
    refine X_iconst (v := nI (0)) C (D (23, .iconst 0, 1) (mg 13 rfl)) (by decide) ?_
    exact X_zret C (D (24, .ireturn, 1) (mg 14 rfl)) rfl ⟨_, rfl, Or.inl rfl, fun q i z z2 => rfl, ⟨a, l0, by omega, by omega, ea, el, hd⟩, fun z => absurd rfl z⟩
  · skip
    refine X_aload_n C 0 (D (8, .aload_n 0, 1) (mg 4 rfl)) rfl rfl ?_
    refine X_get (v := .int (h (m) 15)) C (m) 15 (by omega) hsm rfl rfl (by decide) inX8 fX8_259 rfl (D (9, .getfield 259, 3) (mg 5 rfl)) rfl ?_
    refine X_i2l C (D (12, .i2l, 1) (mg 6 rfl)) ?_
    refine X_iload_n C 2 (D (13, .iload_n 2, 1) (mg 7 rfl)) rfl rfl ?_
    refine X_i2l C (D (14, .i2l, 1) (mg 8 rfl)) ?_
    refine X_tl (y := lN (A)) (nI_l (by omega)) ?_
    refine X_iload_n C 3 (D (15, .iload_n 3, 1) (mg 9 rfl)) rfl rfl ?_
    refine X_i2l C (D (16, .i2l, 1) (mg 10 rfl)) ?_
    refine X_tl (y := lN (B)) (nI_l (by omega)) ?_
    refine X_cS (As := [.long ((h (m) 15).toInt64), .long (lN (A)), .long (lN (B))]) (st := []) C (post := _) (ct_X8_in hw ((h (m) 15).toInt64) (lN (A)) (lN (B)) h g) kX8_54 (by decide) (by decide) rfl rfl (Nat.le_of_ble_eq_true rfl) (D (17, .invokestatic 54, 3) (mg 11 rfl)) rfl (fun v4 H2 G3 hv4 => ?_)
    obtain ⟨rfl, rfl, rfl⟩ := hv4
    show X k w _ 20 [some (.ref (wA w (m))), some (.int (nI (K))), some (.int (nI (A))), some (.int (nI (B)))] [.int (if (lN (A)).toInt ≤ ((h (m) 15).toInt64).toInt ∧ ((h (m) 15).toInt64).toInt ≤ (lN (B)).toInt then 1 else 0)] h g
    refine X_if_ne (tgt := 25) C (D (20, .ifCond .ne 5, 3) (mg 12 rfl)) (by decide) (fun q5 => ?_) (fun q5 => ?_)
    · skip
      have q5 : ((lN (A)).toInt ≤ ((h (m) 15).toInt64).toInt ∧ ((h (m) 15).toInt64).toInt ≤ (lN (B)).toInt) := bz1.mp q5
      simp only [i6, pk_lT (n := A) (by omega), pk_lT (n := B) (by omega)] at q5
      obtain ⟨v6, hv6, ev6⟩ := nI_i (x := h m 15) (n := B + 1) (by omega) (by omega)
      rw [ev6, nI_i2 (by omega)] at q5
      refine X_aload_n C 0 (D (25, .aload_n 0, 1) (mg 15 rfl)) rfl rfl ?_
      refine X_get (v := .ref (wA w (m + 11))) C (m) 17 (by omega) hsm rfl rfl (by decide) inX8 fX8_45 rfl (D (26, .getfield 45, 3) (mg 16 rfl)) rfl ?_
      refine X_iload_n C 1 (D (29, .iload_n 1, 1) (mg 17 rfl)) rfl rfl ?_
      refine X_aload_n C 0 (D (30, .aload_n 0, 1) (mg 18 rfl)) rfl rfl ?_
      refine X_get (v := .int (h (m) 15)) C (m) 15 (by omega) hsm rfl rfl (by decide) inX8 fX8_259 rfl (D (31, .getfield 259, 3) (mg 19 rfl)) rfl ?_
      refine X_ti (y := nI (v6)) (ev6) ?_
      refine X_iast (j := K) C (m + 11) (by omega) hs11 (vp_in_nI (by omega) (by omega)) (D (34, .iastore, 1) (mg 20 rfl)) (nI_clamp (by omega)) ?_
      refine X_aload_n C 0 (D (35, .aload_n 0, 1) (mg 21 rfl)) rfl rfl ?_
      refine X_cV (As := []) (st := []) C (post := _) (m) (by omega) hsm rfl (ct_X8_goBehind hw hM (n := n) (a := a) (l0 := l0) (by omega) (by omega) (u2 h (m + 11) (K) (nI (v6))) g (((u2_p _ _ _ _ (by omega))).trans hb) (((u2_p _ _ _ _ (by omega))).trans ea) (((u2_p _ _ _ _ (by omega))).trans el)) kX8_271 (by decide) (by decide) rfl rfl (Nat.le_of_ble_eq_true rfl) (D (36, .invokevirtual 271, 3) (mg 22 rfl)) rfl (fun v9 H7 G8 hv9 => ?_)
      obtain ⟨rfl, f10, a11, l12, hga11, hsa11, ea11, el12, hda11⟩ := hv9
      show X k w _ 39 [some (.ref (wA w (m))), some (.int (nI (K))), some (.int (nI (A))), some (.int (nI (B)))] [] H7 G8
      refine X_iconst (v := nI (1)) C (D (39, .iconst 1, 1) (mg 23 rfl)) (by decide) ?_
      exact X_zret C (D (40, .ireturn, 1) (mg 24 rfl)) rfl ⟨_, rfl, Or.inr rfl, fun q i z z2 => by rw [f10 _ _ (by omega), u2_ne _ _ _ _ (by omega)], ⟨a11, l12, by omega, by omega, (ea11), (el12), hda11⟩, fun _ => ⟨v6, by omega, by omega, (((f10 _ _ (by omega))).trans (u2_s _ _ _ _))⟩⟩
    · skip
      have q5 : ¬ ((lN (A)).toInt ≤ ((h (m) 15).toInt64).toInt ∧ ((h (m) 15).toInt64).toInt ≤ (lN (B)).toInt) := bz0.mp q5
      simp only [i6, pk_lT (n := A) (by omega), pk_lT (n := B) (by omega)] at q5
      refine X_iconst (v := nI (0)) C (D (23, .iconst 0, 1) (mg 13 rfl)) (by decide) ?_
      exact X_zret C (D (24, .ireturn, 1) (mg 14 rfl)) rfl ⟨_, rfl, Or.inl rfl, fun q i z z2 => rfl, ⟨a, l0, by omega, by omega, ea, el, hd⟩, fun z => absurd rfl z⟩
