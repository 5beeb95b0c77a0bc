/-! THE CLASS, 8: Text: it ends, and nothing else changes -/
/-- the TEXT's marks: where a TOKEN begins and ends -/
def tM (h : xI) (t n : Nat) : Prop := ∃ p s, s ≤ p ∧ p ≤ n ∧ h t 3 = nI p ∧ h t 4 = nI s
def tW (t n : Nat) (h h' : xI) : Prop := (∀ q i, (q ≠ t ∨ i < 3) → (q < t + 2 ∨ t + 4 < q) → h' q i = h q i) ∧ tM h' t n ∧ atOk h' (t + 2)
set_option maxHeartbeats 4000000 in
set_option maxRecDepth 100000 in
theorem ct_X5_isLetter {l : Launch} {w : Kw} (hw : wOk w) (x : Int32) (h : xI) (g : xJ)  : Ct l w yX5_isLetter cX5_isLetter 1 (some .boolean) 0 0 [.int (x)] h g (px (some (.int (if 97 ≤ x.toInt ∧ x.toInt ≤ 122 then 1 else 0))) h g) := by
  refine Ct_of (ls := [some (.int (x))]) (by decide) hw (Nat.le_of_ble_eq_true rfl) rfl (fun k hkl C => ?_)
  have C : Cx k w cX5_isLetter RX5 1 (some .boolean) 0 0 := C
  have D := dtX5_isLetter
  subst hkl
  refine X_iload_n C 0 (D (0, .iload_n 0, 1) (mg 0 rfl)) rfl rfl ?_
  refine X_bipush (v := nI (97)) C (D (1, .bipush 97, 2) (mg 1 rfl)) (by decide) ?_
  refine X_icmp_lt (tgt := 16) C (D (3, .if_icmp .lt 13, 3) (mg 2 rfl)) (by decide) (fun q1 => ?_) (fun q1 => ?_)
  · skip
    refine X_iconst (v := nI (0)) C (D (16, .iconst 0, 1) (mg 8 rfl)) (by decide) ?_
    exact X_zret C (D (17, .ireturn, 1) (mg 9 rfl)) rfl ⟨pf (by simp only [Int32.lt_iff_toInt_lt, Int32.le_iff_toInt_le, nI_i2 (n := 97) (by omega), nI_i2 (n := 122) (by omega)] at *; omega), rfl, rfl⟩
  · skip
    refine X_iload_n C 0 (D (6, .iload_n 0, 1) (mg 3 rfl)) rfl rfl ?_
    refine X_bipush (v := nI (122)) C (D (7, .bipush 122, 2) (mg 4 rfl)) (by decide) ?_
    refine X_icmp_gt (tgt := 16) C (D (9, .if_icmp .gt 7, 3) (mg 5 rfl)) (by decide) (fun q2 => ?_) (fun q2 => ?_)
    · skip
      refine X_iconst (v := nI (0)) C (D (16, .iconst 0, 1) (mg 8 rfl)) (by decide) ?_
      exact X_zret C (D (17, .ireturn, 1) (mg 9 rfl)) rfl ⟨pf (by simp only [Int32.lt_iff_toInt_lt, Int32.le_iff_toInt_le, nI_i2 (n := 97) (by omega), nI_i2 (n := 122) (by omega)] at *; omega), rfl, rfl⟩
    · skip
      refine X_iconst (v := nI (1)) C (D (12, .iconst 1, 1) (mg 6 rfl)) (by decide) ?_
      refine X_goto (tgt := 17) C (D (13, .goto 4, 3) (mg 7 rfl)) (by decide) ?_
      exact X_zret C (D (17, .ireturn, 1) (mg 9 rfl)) rfl ⟨pt (by simp only [Int32.lt_iff_toInt_lt, Int32.le_iff_toInt_le, nI_i2 (n := 97) (by omega), nI_i2 (n := 122) (by omega)] at *; omega), rfl, rfl⟩
set_option maxHeartbeats 4000000 in
set_option maxRecDepth 100000 in
theorem ct_X5_isFigure {l : Launch} {w : Kw} (hw : wOk w) (x : Int32) (h : xI) (g : xJ)  : Ct l w yX5_isFigure cX5_isFigure 1 (some .boolean) 0 0 [.int (x)] h g (px (some (.int (if 48 ≤ x.toInt ∧ x.toInt ≤ 57 then 1 else 0))) h g) := by
  refine Ct_of (ls := [some (.int (x))]) (by decide) hw (Nat.le_of_ble_eq_true rfl) rfl (fun k hkl C => ?_)
  have C : Cx k w cX5_isFigure RX5 1 (some .boolean) 0 0 := C
  have D := dtX5_isFigure
  subst hkl
  refine X_iload_n C 0 (D (0, .iload_n 0, 1) (mg 0 rfl)) rfl rfl ?_
  refine X_bipush (v := nI (48)) C (D (1, .bipush 48, 2) (mg 1 rfl)) (by decide) ?_
  refine X_icmp_lt (tgt := 16) C (D (3, .if_icmp .lt 13, 3) (mg 2 rfl)) (by decide) (fun q1 => ?_) (fun q1 => ?_)
  · skip
    refine X_iconst (v := nI (0)) C (D (16, .iconst 0, 1) (mg 8 rfl)) (by decide) ?_
    exact X_zret C (D (17, .ireturn, 1) (mg 9 rfl)) rfl ⟨pf (by simp only [Int32.lt_iff_toInt_lt, Int32.le_iff_toInt_le, nI_i2 (n := 48) (by omega), nI_i2 (n := 57) (by omega)] at *; omega), rfl, rfl⟩
  · skip
    refine X_iload_n C 0 (D (6, .iload_n 0, 1) (mg 3 rfl)) rfl rfl ?_
    refine X_bipush (v := nI (57)) C (D (7, .bipush 57, 2) (mg 4 rfl)) (by decide) ?_
    refine X_icmp_gt (tgt := 16) C (D (9, .if_icmp .gt 7, 3) (mg 5 rfl)) (by decide) (fun q2 => ?_) (fun q2 => ?_)
    · skip
      refine X_iconst (v := nI (0)) C (D (16, .iconst 0, 1) (mg 8 rfl)) (by decide) ?_
      exact X_zret C (D (17, .ireturn, 1) (mg 9 rfl)) rfl ⟨pf (by simp only [Int32.lt_iff_toInt_lt, Int32.le_iff_toInt_le, nI_i2 (n := 48) (by omega), nI_i2 (n := 57) (by omega)] at *; omega), rfl, rfl⟩
    · skip
      refine X_iconst (v := nI (1)) C (D (12, .iconst 1, 1) (mg 6 rfl)) (by decide) ?_
      refine X_goto (tgt := 17) C (D (13, .goto 4, 3) (mg 7 rfl)) (by decide) ?_
      exact X_zret C (D (17, .ireturn, 1) (mg 9 rfl)) rfl ⟨pt (by simp only [Int32.lt_iff_toInt_lt, Int32.le_iff_toInt_le, nI_i2 (n := 48) (by omega), nI_i2 (n := 57) (by omega)] at *; omega), rfl, rfl⟩
set_option maxHeartbeats 4000000 in
set_option maxRecDepth 100000 in
theorem ct_X5_advanceWord {l : Launch} {w : Kw} (hw : wOk w) {t n : Nat} (hX : shX w t) (hn : n ≤ 150) {p s0 : Nat} (hp : p ≤ n) (hsp : s0 ≤ p) (h : xI) (g : xJ) (hb : h t 2 = nI n) (ha : h t 3 = nI p) (he : h t 4 = nI s0) : Ct l w yX5_advanceWord cX5_advanceWord 1 none 1 20 [.ref (wA w (t))] h g (pQv (fun h' => (∀ q i, (q ≠ t ∨ (i ≠ 3 ∧ i ≠ 5)) → h' q i = h q i) ∧ ∃ p', p ≤ p' ∧ p' ≤ n ∧ h' t 3 = nI p')) := by
  refine Ct_of (ls := [some (.ref (wA w (t)))]) (by decide) hw (Nat.le_of_ble_eq_true rfl) rfl (fun k hkl C => ?_)
  have C : Cx k w cX5_advanceWord RX5 1 none 1 20 := C
  have D := dtX5_advanceWord
  subst hkl
  have hX0 := hX
  obtain ⟨htn, hst, hs1, hN2⟩ := hX
  have hX := hX0
  have lp0 : ∀ (nn0 : Nat) (p1 : Nat) (hp0 : xI), (p ≤ p1) → (p1 ≤ n) → (hp0 t 3 = nI p1) → (∀ q i, (q ≠ t ∨ (i ≠ 3 ∧ i ≠ 5)) → hp0 q i = h q i) → n + 1 - p1 ≤ nn0 → X k w (Zq k w (pQv (fun h' => (∀ q i, (q ≠ t ∨ (i ≠ 3 ∧ i ≠ 5)) → h' q i = h q i) ∧ ∃ p', p ≤ p' ∧ p' ≤ n ∧ h' t 3 = nI p'))) 0 [some (.ref (wA w (t)))] [] hp0 g := by
    intro nn0
    induction nn0 with
    | zero => intro p1 hp0 hc0_0 hc0_1 hc0_2 hc0_3 hz; exact absurd hz (by omega)
    | succ nn0 ih0 =>
      intro p1 hp0 hc0_0 hc0_1 hc0_2 hc0_3 hz0
      refine X_aload_n C 0 (D (0, .aload_n 0, 1) (mg 0 rfl)) rfl rfl ?_
      refine X_get (v := .int (hp0 (t) 3)) C (t) 3 (by omega) hst rfl rfl (by decide) inX5 fX5_22 rfl (D (1, .getfield 22, 3) (mg 1 rfl)) rfl ?_
      refine X_ti (y := nI (p1)) (hc0_2) ?_
      refine X_aload_n C 0 (D (4, .aload_n 0, 1) (mg 2 rfl)) rfl rfl ?_
      refine X_get (v := .int (hp0 (t) 2)) C (t) 2 (by omega) hst rfl rfl (by decide) inX5 fX5_39 rfl (D (5, .getfield 39, 3) (mg 3 rfl)) rfl ?_
      refine X_ti (y := nI (n)) (((hc0_3 _ _ (by omega)).trans hb)) ?_
      refine X_icmp_ge (tgt := 39) C (D (8, .if_icmp .ge 31, 3) (mg 4 rfl)) (by decide) (fun q1 => ?_) (fun q1 => ?_)
      · skip
        have q1 : (p1) ≥ (n) := by have z := (nI_leI (a := (n)) (b := (p1)) (by omega) (by omega)).mp q1; omega
        refine X_aload_n C 0 (D (39, .aload_n 0, 1) (mg 19 rfl)) rfl rfl ?_
        refine X_iconst (v := nI (0)) C (D (40, .iconst 0, 1) (mg 20 rfl)) (by decide) ?_
        refine X_putI C (t) 5 tyX5 tyX5_ok nmX5 (by omega) hst rfl rfl (by decide) inX5 fX5_29 rfl rfl (by decide +kernel) (D (41, .putfield 29, 3) (mg 21 rfl)) ?_
        exact X_vret C (D (44, .return_, 1) (mg 22 rfl)) ⟨rfl, fun q i z => by rw [u2_ne _ _ _ _ (by omega)]; exact hc0_3 q i z, p1, by omega, by omega, (((u2_i _ _ _ _ (by omega))).trans hc0_2)⟩
      · skip
        have q1 : (p1) < (n) := by have z : ¬ ((n) ≤ (p1)) := fun u => q1 ((nI_leI (a := (n)) (b := (p1)) (by omega) (by omega)).mpr u); omega
        refine X_aload_n C 0 (D (11, .aload_n 0, 1) (mg 5 rfl)) rfl rfl ?_
        refine X_get (v := .ref (wA w (t + 1))) C (t) 0 (by omega) hst rfl rfl (by decide) inX5 fX5_9 rfl (D (12, .getfield 9, 3) (mg 6 rfl)) rfl ?_
        refine X_aload_n C 0 (D (15, .aload_n 0, 1) (mg 7 rfl)) rfl rfl ?_
        refine X_get (v := .int (hp0 (t) 3)) C (t) 3 (by omega) hst rfl rfl (by decide) inX5 fX5_22 rfl (D (16, .getfield 22, 3) (mg 8 rfl)) rfl ?_
        refine X_ti (y := nI (p1)) (hc0_2) ?_
        refine X_iald (v := hp0 (t + 1) (p1)) C (t + 1) (by omega) hs1 (vp_in_nI (by omega) (by omega)) (D (19, .iaload, 1) (mg 9 rfl)) (by rw [nI_clamp (by omega)]) ?_
        refine X_cS (As := [.int (hp0 (t + 1) (p1))]) (st := []) C (post := _) (ct_X5_isLetter hw (hp0 (t + 1) (p1)) hp0 g) kX5_42 (by decide) (by decide) rfl rfl (Nat.le_of_ble_eq_true rfl) (D (20, .invokestatic 42, 3) (mg 10 rfl)) rfl (fun v4 H2 G3 hv4 => ?_)
        obtain ⟨rfl, rfl, rfl⟩ := hv4
        show X k w _ 23 [some (.ref (wA w (t)))] [.int (if 97 ≤ (hp0 (t + 1) (p1)).toInt ∧ (hp0 (t + 1) (p1)).toInt ≤ 122 then 1 else 0)] hp0 g
        refine X_if_eq (tgt := 39) C (D (23, .ifCond .eq 16, 3) (mg 11 rfl)) (by decide) (fun q5 => ?_) (fun q5 => ?_)
        · skip
          have q5 : ¬ (97 ≤ (hp0 (t + 1) (p1)).toInt ∧ (hp0 (t + 1) (p1)).toInt ≤ 122) := bz0.mp q5
          refine X_aload_n C 0 (D (39, .aload_n 0, 1) (mg 19 rfl)) rfl rfl ?_
          refine X_iconst (v := nI (0)) C (D (40, .iconst 0, 1) (mg 20 rfl)) (by decide) ?_
          refine X_putI C (t) 5 tyX5 tyX5_ok nmX5 (by omega) hst rfl rfl (by decide) inX5 fX5_29 rfl rfl (by decide +kernel) (D (41, .putfield 29, 3) (mg 21 rfl)) ?_
          exact X_vret C (D (44, .return_, 1) (mg 22 rfl)) ⟨rfl, fun q i z => by rw [u2_ne _ _ _ _ (by omega)]; exact hc0_3 q i z, p1, by omega, by omega, (((u2_i _ _ _ _ (by omega))).trans hc0_2)⟩
        · skip
          have q5 : (97 ≤ (hp0 (t + 1) (p1)).toInt ∧ (hp0 (t + 1) (p1)).toInt ≤ 122) := bz1.mp q5
          refine X_aload_n C 0 (D (26, .aload_n 0, 1) (mg 12 rfl)) rfl rfl ?_
          refine X_dup C (D (27, .dup, 1) (mg 13 rfl)) rfl ?_
          refine X_get (v := .int (hp0 (t) 3)) C (t) 3 (by omega) hst rfl rfl (by decide) inX5 fX5_22 rfl (D (28, .getfield 22, 3) (mg 14 rfl)) rfl ?_
          refine X_ti (y := nI (p1)) (hc0_2) ?_
          refine X_iconst (v := nI (1)) C (D (31, .iconst 1, 1) (mg 15 rfl)) (by decide) ?_
          refine X_iadd C (D (32, .iadd, 1) (mg 16 rfl)) ?_
          refine X_ti (y := nI (p1 + 1)) (nI_add (p1) (1)) ?_
          refine X_putI C (t) 3 tyX5 tyX5_ok nmX5 (by omega) hst rfl rfl (by decide) inX5 fX5_22 rfl rfl (by decide +kernel) (D (33, .putfield 22, 3) (mg 17 rfl)) ?_
          refine X_goto (tgt := 0) C (D (36, .goto (-36), 3) (mg 18 rfl)) (by decide) ?_
          refine X_eq (ls' := [some (.ref (wA w (t)))]) (st' := []) (h' := (u2 hp0 (t) 3 (nI (p1 + 1)))) (g' := g) rfl rfl rfl rfl ?_
          exact ih0 (p1 + 1) ((u2 hp0 (t) 3 (nI (p1 + 1)))) (by omega) (by omega) ((u2_s _ _ _ _)) (fun q i z => by rw [u2_ne _ _ _ _ (by omega)]; exact hc0_3 q i z) (by omega)
  refine X_eq (ls' := [some (.ref (wA w (t)))]) (st' := []) (h' := h) (g' := g) rfl rfl rfl rfl ?_
  exact lp0 _ (p) (h) (by omega) (by omega) (ha) (fun q i z => by rfl) (Nat.le_refl _)
set_option maxHeartbeats 4000000 in
set_option maxRecDepth 100000 in
theorem ct_X5_advanceNumber {l : Launch} {w : Kw} (hw : wOk w) {t n : Nat} (hX : shX w t) (hn : n ≤ 150) {p s0 : Nat} (hp : p ≤ n) (hsp : s0 ≤ p) (h : xI) (g : xJ) (hb : h t 2 = nI n) (ha : h t 3 = nI p) (he : h t 4 = nI s0) : Ct l w yX5_advanceNumber cX5_advanceNumber 1 none 1 20 [.ref (wA w (t))] h g (pQv (fun h' => (∀ q i, (q ≠ t ∨ (i ≠ 3 ∧ i ≠ 5 ∧ i ≠ 6)) → h' q i = h q i) ∧ ∃ p', p ≤ p' ∧ p' ≤ n ∧ h' t 3 = nI p')) := by
  refine Ct_of (ls := [some (.ref (wA w (t)))]) (by decide) hw (Nat.le_of_ble_eq_true rfl) rfl (fun k hkl C => ?_)
  have C : Cx k w cX5_advanceNumber RX5 1 none 1 20 := C
  have D := dtX5_advanceNumber
  subst hkl
  have hX0 := hX
  obtain ⟨htn, hst, hs1, hN2⟩ := hX
  have hX := hX0
  refine X_aload_n C 0 (D (0, .aload_n 0, 1) (mg 0 rfl)) rfl rfl ?_
  refine X_iconst (v := nI (0)) C (D (1, .iconst 0, 1) (mg 1 rfl)) (by decide) ?_
  refine X_putI C (t) 6 tyX5 tyX5_ok nmX5 (by omega) hst rfl rfl (by decide) inX5 fX5_55 rfl rfl (by decide +kernel) (D (2, .putfield 55, 3) (mg 2 rfl)) ?_
  have lp5 : ∀ (nn5 : Nat) (p1 : Nat) (hp5 : xI), (p ≤ p1) → (p1 ≤ n) → (hp5 t 3 = nI p1) → (∀ q i, (q ≠ t ∨ (i ≠ 3 ∧ i ≠ 5 ∧ i ≠ 6)) → hp5 q i = h q i) → n + 1 - p1 ≤ nn5 → X k w (Zq k w (pQv (fun h' => (∀ q i, (q ≠ t ∨ (i ≠ 3 ∧ i ≠ 5 ∧ i ≠ 6)) → h' q i = h q i) ∧ ∃ p', p ≤ p' ∧ p' ≤ n ∧ h' t 3 = nI p'))) 5 [some (.ref (wA w (t)))] [] hp5 g := by
    intro nn5
    induction nn5 with
    | zero => intro p1 hp5 hc5_0 hc5_1 hc5_2 hc5_3 hz; exact absurd hz (by omega)
    | succ nn5 ih5 =>
      intro p1 hp5 hc5_0 hc5_1 hc5_2 hc5_3 hz5
      refine X_aload_n C 0 (D (5, .aload_n 0, 1) (mg 3 rfl)) rfl rfl ?_
      refine X_get (v := .int (hp5 (t) 3)) C (t) 3 (by omega) hst rfl rfl (by decide) inX5 fX5_22 rfl (D (6, .getfield 22, 3) (mg 4 rfl)) rfl ?_
      refine X_ti (y := nI (p1)) (hc5_2) ?_
      refine X_aload_n C 0 (D (9, .aload_n 0, 1) (mg 5 rfl)) rfl rfl ?_
      refine X_get (v := .int (hp5 (t) 2)) C (t) 2 (by omega) hst rfl rfl (by decide) inX5 fX5_39 rfl (D (10, .getfield 39, 3) (mg 6 rfl)) rfl ?_
      refine X_ti (y := nI (n)) (((hc5_3 _ _ (by omega)).trans hb)) ?_
      refine X_icmp_ge (tgt := 81) C (D (13, .if_icmp .ge 68, 3) (mg 7 rfl)) (by decide) (fun q1 => ?_) (fun q1 => ?_)
      · skip
        have q1 : (p1) ≥ (n) := by have z := (nI_leI (a := (n)) (b := (p1)) (by omega) (by omega)).mp q1; omega
        refine X_aload_n C 0 (D (81, .aload_n 0, 1) (mg 43 rfl)) rfl rfl ?_
        refine X_aload_n C 0 (D (82, .aload_n 0, 1) (mg 44 rfl)) rfl rfl ?_
        refine X_get (v := .int (hp5 (t) 3)) C (t) 3 (by omega) hst rfl rfl (by decide) inX5 fX5_22 rfl (D (83, .getfield 22, 3) (mg 45 rfl)) rfl ?_
        refine X_ti (y := nI (p1)) (hc5_2) ?_
        refine X_aload_n C 0 (D (86, .aload_n 0, 1) (mg 46 rfl)) rfl rfl ?_
        refine X_get (v := .int (hp5 (t) 4)) C (t) 4 (by omega) hst rfl rfl (by decide) inX5 fX5_36 rfl (D (87, .getfield 36, 3) (mg 47 rfl)) rfl ?_
        refine X_ti (y := nI (s0)) (((hc5_3 _ _ (by omega)).trans he)) ?_
        refine X_isub C (D (90, .isub, 1) (mg 48 rfl)) ?_
        refine X_ti (y := nI (p1 - s0)) (pk_sub (by omega)) ?_
        refine X_iconst (v := nI (2)) C (D (91, .iconst 2, 1) (mg 49 rfl)) (by decide) ?_
        refine X_icmp_gt (tgt := 99) C (D (92, .if_icmp .gt 7, 3) (mg 50 rfl)) (by decide) (fun q2 => ?_) (fun q2 => ?_)
        · skip
          have q2 : (p1 - s0) > (2) := by have z := (nI_ltI (a := (2)) (b := (p1 - s0)) (by omega) (by omega)).mp q2; omega
          refine X_iconst (v := nI (3)) C (D (99, .iconst 3, 1) (mg 53 rfl)) (by decide) ?_
          refine X_putI C (t) 5 tyX5 tyX5_ok nmX5 (by omega) hst rfl rfl (by decide) inX5 fX5_29 rfl rfl (by decide +kernel) (D (100, .putfield 29, 3) (mg 54 rfl)) ?_
          exact X_vret C (D (103, .return_, 1) (mg 55 rfl)) ⟨rfl, fun q i z => by rw [u2_ne _ _ _ _ (by omega)]; exact hc5_3 q i z, p1, by omega, by omega, (((u2_i _ _ _ _ (by omega))).trans hc5_2)⟩
        · skip
          have q2 : (p1 - s0) ≤ (2) := by have z : ¬ ((2) < (p1 - s0)) := fun u => q2 ((nI_ltI (a := (2)) (b := (p1 - s0)) (by omega) (by omega)).mpr u); omega
          refine X_iconst (v := nI (1)) C (D (95, .iconst 1, 1) (mg 51 rfl)) (by decide) ?_
          refine X_goto (tgt := 100) C (D (96, .goto 4, 3) (mg 52 rfl)) (by decide) ?_
          refine X_putI C (t) 5 tyX5 tyX5_ok nmX5 (by omega) hst rfl rfl (by decide) inX5 fX5_29 rfl rfl (by decide +kernel) (D (100, .putfield 29, 3) (mg 54 rfl)) ?_
          exact X_vret C (D (103, .return_, 1) (mg 55 rfl)) ⟨rfl, fun q i z => by rw [u2_ne _ _ _ _ (by omega)]; exact hc5_3 q i z, p1, by omega, by omega, (((u2_i _ _ _ _ (by omega))).trans hc5_2)⟩
      · skip
        have q1 : (p1) < (n) := by have z : ¬ ((n) ≤ (p1)) := fun u => q1 ((nI_leI (a := (n)) (b := (p1)) (by omega) (by omega)).mpr u); omega
        refine X_aload_n C 0 (D (16, .aload_n 0, 1) (mg 8 rfl)) rfl rfl ?_
        refine X_get (v := .ref (wA w (t + 1))) C (t) 0 (by omega) hst rfl rfl (by decide) inX5 fX5_9 rfl (D (17, .getfield 9, 3) (mg 9 rfl)) rfl ?_
        refine X_aload_n C 0 (D (20, .aload_n 0, 1) (mg 10 rfl)) rfl rfl ?_
        refine X_get (v := .int (hp5 (t) 3)) C (t) 3 (by omega) hst rfl rfl (by decide) inX5 fX5_22 rfl (D (21, .getfield 22, 3) (mg 11 rfl)) rfl ?_
        refine X_ti (y := nI (p1)) (hc5_2) ?_
        refine X_iald (v := hp5 (t + 1) (p1)) C (t + 1) (by omega) hs1 (vp_in_nI (by omega) (by omega)) (D (24, .iaload, 1) (mg 12 rfl)) (by rw [nI_clamp (by omega)]) ?_
        refine X_cS (As := [.int (hp5 (t + 1) (p1))]) (st := []) C (post := _) (ct_X5_isFigure hw (hp5 (t + 1) (p1)) hp5 g) kX5_49 (by decide) (by decide) rfl rfl (Nat.le_of_ble_eq_true rfl) (D (25, .invokestatic 49, 3) (mg 13 rfl)) rfl (fun v5 H3 G4 hv5 => ?_)
        obtain ⟨rfl, rfl, rfl⟩ := hv5
        show X k w _ 28 [some (.ref (wA w (t)))] [.int (if 48 ≤ (hp5 (t + 1) (p1)).toInt ∧ (hp5 (t + 1) (p1)).toInt ≤ 57 then 1 else 0)] hp5 g
        refine X_if_eq (tgt := 81) C (D (28, .ifCond .eq 53, 3) (mg 14 rfl)) (by decide) (fun q6 => ?_) (fun q6 => ?_)
        · skip
          have q6 : ¬ (48 ≤ (hp5 (t + 1) (p1)).toInt ∧ (hp5 (t + 1) (p1)).toInt ≤ 57) := bz0.mp q6
          refine X_aload_n C 0 (D (81, .aload_n 0, 1) (mg 43 rfl)) rfl rfl ?_
          refine X_aload_n C 0 (D (82, .aload_n 0, 1) (mg 44 rfl)) rfl rfl ?_
          refine X_get (v := .int (hp5 (t) 3)) C (t) 3 (by omega) hst rfl rfl (by decide) inX5 fX5_22 rfl (D (83, .getfield 22, 3) (mg 45 rfl)) rfl ?_
          refine X_ti (y := nI (p1)) (hc5_2) ?_
          refine X_aload_n C 0 (D (86, .aload_n 0, 1) (mg 46 rfl)) rfl rfl ?_
          refine X_get (v := .int (hp5 (t) 4)) C (t) 4 (by omega) hst rfl rfl (by decide) inX5 fX5_36 rfl (D (87, .getfield 36, 3) (mg 47 rfl)) rfl ?_
          refine X_ti (y := nI (s0)) (((hc5_3 _ _ (by omega)).trans he)) ?_
          refine X_isub C (D (90, .isub, 1) (mg 48 rfl)) ?_
          refine X_ti (y := nI (p1 - s0)) (pk_sub (by omega)) ?_
          refine X_iconst (v := nI (2)) C (D (91, .iconst 2, 1) (mg 49 rfl)) (by decide) ?_
          refine X_icmp_gt (tgt := 99) C (D (92, .if_icmp .gt 7, 3) (mg 50 rfl)) (by decide) (fun q7 => ?_) (fun q7 => ?_)
          · skip
            have q7 : (p1 - s0) > (2) := by have z := (nI_ltI (a := (2)) (b := (p1 - s0)) (by omega) (by omega)).mp q7; omega
            refine X_iconst (v := nI (3)) C (D (99, .iconst 3, 1) (mg 53 rfl)) (by decide) ?_
            refine X_putI C (t) 5 tyX5 tyX5_ok nmX5 (by omega) hst rfl rfl (by decide) inX5 fX5_29 rfl rfl (by decide +kernel) (D (100, .putfield 29, 3) (mg 54 rfl)) ?_
            exact X_vret C (D (103, .return_, 1) (mg 55 rfl)) ⟨rfl, fun q i z => by rw [u2_ne _ _ _ _ (by omega)]; exact hc5_3 q i z, p1, by omega, by omega, (((u2_i _ _ _ _ (by omega))).trans hc5_2)⟩
          · skip
            have q7 : (p1 - s0) ≤ (2) := by have z : ¬ ((2) < (p1 - s0)) := fun u => q7 ((nI_ltI (a := (2)) (b := (p1 - s0)) (by omega) (by omega)).mpr u); omega
            refine X_iconst (v := nI (1)) C (D (95, .iconst 1, 1) (mg 51 rfl)) (by decide) ?_
            refine X_goto (tgt := 100) C (D (96, .goto 4, 3) (mg 52 rfl)) (by decide) ?_
            refine X_putI C (t) 5 tyX5 tyX5_ok nmX5 (by omega) hst rfl rfl (by decide) inX5 fX5_29 rfl rfl (by decide +kernel) (D (100, .putfield 29, 3) (mg 54 rfl)) ?_
            exact X_vret C (D (103, .return_, 1) (mg 55 rfl)) ⟨rfl, fun q i z => by rw [u2_ne _ _ _ _ (by omega)]; exact hc5_3 q i z, p1, by omega, by omega, (((u2_i _ _ _ _ (by omega))).trans hc5_2)⟩
        · skip
          have q6 : (48 ≤ (hp5 (t + 1) (p1)).toInt ∧ (hp5 (t + 1) (p1)).toInt ≤ 57) := bz1.mp q6
          refine X_aload_n C 0 (D (31, .aload_n 0, 1) (mg 15 rfl)) rfl rfl ?_
          refine X_get (v := .int (hp5 (t) 3)) C (t) 3 (by omega) hst rfl rfl (by decide) inX5 fX5_22 rfl (D (32, .getfield 22, 3) (mg 16 rfl)) rfl ?_
          refine X_ti (y := nI (p1)) (hc5_2) ?_
          refine X_aload_n C 0 (D (35, .aload_n 0, 1) (mg 17 rfl)) rfl rfl ?_
          refine X_get (v := .int (hp5 (t) 4)) C (t) 4 (by omega) hst rfl rfl (by decide) inX5 fX5_36 rfl (D (36, .getfield 36, 3) (mg 18 rfl)) rfl ?_
          refine X_ti (y := nI (s0)) (((hc5_3 _ _ (by omega)).trans he)) ?_
          refine X_isub C (D (39, .isub, 1) (mg 19 rfl)) ?_
          refine X_ti (y := nI (p1 - s0)) (pk_sub (by omega)) ?_
          refine X_iconst (v := nI (2)) C (D (40, .iconst 2, 1) (mg 20 rfl)) (by decide) ?_
          refine X_icmp_ge (tgt := 68) C (D (41, .if_icmp .ge 27, 3) (mg 21 rfl)) (by decide) (fun q8 => ?_) (fun q8 => ?_)
          · skip
            have q8 : (p1 - s0) ≥ (2) := by have z := (nI_leI (a := (2)) (b := (p1 - s0)) (by omega) (by omega)).mp q8; omega
            refine X_aload_n C 0 (D (68, .aload_n 0, 1) (mg 36 rfl)) rfl rfl ?_
            refine X_dup C (D (69, .dup, 1) (mg 37 rfl)) rfl ?_
            refine X_get (v := .int (hp5 (t) 3)) C (t) 3 (by omega) hst rfl rfl (by decide) inX5 fX5_22 rfl (D (70, .getfield 22, 3) (mg 38 rfl)) rfl ?_
            refine X_ti (y := nI (p1)) (hc5_2) ?_
            refine X_iconst (v := nI (1)) C (D (73, .iconst 1, 1) (mg 39 rfl)) (by decide) ?_
            refine X_iadd C (D (74, .iadd, 1) (mg 40 rfl)) ?_
            refine X_ti (y := nI (p1 + 1)) (nI_add (p1) (1)) ?_
            refine X_putI C (t) 3 tyX5 tyX5_ok nmX5 (by omega) hst rfl rfl (by decide) inX5 fX5_22 rfl rfl (by decide +kernel) (D (75, .putfield 22, 3) (mg 41 rfl)) ?_
            refine X_goto (tgt := 5) C (D (78, .goto (-73), 3) (mg 42 rfl)) (by decide) ?_
            refine X_eq (ls' := [some (.ref (wA w (t)))]) (st' := []) (h' := (u2 hp5 (t) 3 (nI (p1 + 1)))) (g' := g) rfl rfl rfl rfl ?_
            exact ih5 (p1 + 1) ((u2 hp5 (t) 3 (nI (p1 + 1)))) (by omega) (by omega) ((u2_s _ _ _ _)) (fun q i z => by rw [u2_ne _ _ _ _ (by omega)]; exact hc5_3 q i z) (by omega)
          · skip
            have q8 : (p1 - s0) < (2) := by have z : ¬ ((2) ≤ (p1 - s0)) := fun u => q8 ((nI_leI (a := (2)) (b := (p1 - s0)) (by omega) (by omega)).mpr u); omega
            refine X_aload_n C 0 (D (44, .aload_n 0, 1) (mg 22 rfl)) rfl rfl ?_
            refine X_bipush (v := nI (10)) C (D (45, .bipush 10, 2) (mg 23 rfl)) (by decide) ?_
            refine X_aload_n C 0 (D (47, .aload_n 0, 1) (mg 24 rfl)) rfl rfl ?_
            refine X_get (v := .int (hp5 (t) 6)) C (t) 6 (by omega) hst rfl rfl (by decide) inX5 fX5_55 rfl (D (48, .getfield 55, 3) (mg 25 rfl)) rfl ?_
            refine X_imul C (D (51, .imul, 1) (mg 26 rfl)) ?_
            refine X_aload_n C 0 (D (52, .aload_n 0, 1) (mg 27 rfl)) rfl rfl ?_
            refine X_get (v := .ref (wA w (t + 1))) C (t) 0 (by omega) hst rfl rfl (by decide) inX5 fX5_9 rfl (D (53, .getfield 9, 3) (mg 28 rfl)) rfl ?_
            refine X_aload_n C 0 (D (56, .aload_n 0, 1) (mg 29 rfl)) rfl rfl ?_
            refine X_get (v := .int (hp5 (t) 3)) C (t) 3 (by omega) hst rfl rfl (by decide) inX5 fX5_22 rfl (D (57, .getfield 22, 3) (mg 30 rfl)) rfl ?_
            refine X_ti (y := nI (p1)) (hc5_2) ?_
            refine X_iald (v := hp5 (t + 1) (p1)) C (t + 1) (by omega) hs1 (vp_in_nI (by omega) (by omega)) (D (60, .iaload, 1) (mg 31 rfl)) (by rw [nI_clamp (by omega)]) ?_
            refine X_iadd C (D (61, .iadd, 1) (mg 32 rfl)) ?_
            refine X_bipush (v := nI (48)) C (D (62, .bipush 48, 2) (mg 33 rfl)) (by decide) ?_
            refine X_isub C (D (64, .isub, 1) (mg 34 rfl)) ?_
            refine X_putI C (t) 6 tyX5 tyX5_ok nmX5 (by omega) hst rfl rfl (by decide) inX5 fX5_55 rfl rfl (by decide +kernel) (D (65, .putfield 55, 3) (mg 35 rfl)) ?_
            refine X_aload_n C 0 (D (68, .aload_n 0, 1) (mg 36 rfl)) rfl rfl ?_
            refine X_dup C (D (69, .dup, 1) (mg 37 rfl)) rfl ?_
            refine X_get (v := .int ((u2 hp5 (t) 6 ((((nI (10)) * (hp5 (t) 6)) + (hp5 (t + 1) (p1))) - (nI (48)))) (t) 3)) C (t) 3 (by omega) hst rfl rfl (by decide) inX5 fX5_22 rfl (D (70, .getfield 22, 3) (mg 38 rfl)) rfl ?_
            refine X_ti (y := nI (p1)) (((u2_i _ _ _ _ (by omega))).trans hc5_2) ?_
            refine X_iconst (v := nI (1)) C (D (73, .iconst 1, 1) (mg 39 rfl)) (by decide) ?_
            refine X_iadd C (D (74, .iadd, 1) (mg 40 rfl)) ?_
            refine X_ti (y := nI (p1 + 1)) (nI_add (p1) (1)) ?_
            refine X_putI C (t) 3 tyX5 tyX5_ok nmX5 (by omega) hst rfl rfl (by decide) inX5 fX5_22 rfl rfl (by decide +kernel) (D (75, .putfield 22, 3) (mg 41 rfl)) ?_
            refine X_goto (tgt := 5) C (D (78, .goto (-73), 3) (mg 42 rfl)) (by decide) ?_
            refine X_eq (ls' := [some (.ref (wA w (t)))]) (st' := []) (h' := (u2 (u2 hp5 (t) 6 ((((nI (10)) * (hp5 (t) 6)) + (hp5 (t + 1) (p1))) - (nI (48)))) (t) 3 (nI (p1 + 1)))) (g' := g) rfl rfl rfl rfl ?_
            exact ih5 (p1 + 1) ((u2 (u2 hp5 (t) 6 ((((nI (10)) * (hp5 (t) 6)) + (hp5 (t + 1) (p1))) - (nI (48)))) (t) 3 (nI (p1 + 1)))) (by omega) (by omega) ((u2_s _ _ _ _)) (fun q i z => by rw [u2_ne _ _ _ _ (by omega), u2_ne _ _ _ _ (by omega)]; exact hc5_3 q i z) (by omega)
  refine X_eq (ls' := [some (.ref (wA w (t)))]) (st' := []) (h' := (u2 h (t) 6 (nI (0)))) (g' := g) rfl rfl rfl rfl ?_
  exact lp5 _ (p) ((u2 h (t) 6 (nI (0)))) (by omega) (by omega) (((u2_i _ _ _ _ (by omega))).trans ha) (fun q i z => by rw [u2_ne _ _ _ _ (by omega)]) (Nat.le_refl _)
set_option maxHeartbeats 4000000 in
set_option maxRecDepth 100000 in
theorem ct_X5_advance {l : Launch} {w : Kw} (hw : wOk w) {t n : Nat} (hX : shX w t) (hn : n ≤ 150) {p : Nat} (hp : p ≤ n) (h : xI) (g : xJ) (hb : h t 2 = nI n) (ha : h t 3 = nI p) : Ct l w yX5_advance cX5_advance 1 none 2 40 [.ref (wA w (t))] h g (pQv (fun h' => (∀ q i, (q ≠ t ∨ i < 3) → h' q i = h q i) ∧ tM h' t n)) := by
  refine Ct_of (ls := [some (.ref (wA w (t)))]) (by decide) hw (Nat.le_of_ble_eq_true rfl) rfl (fun k hkl C => ?_)
  have C : Cx k w cX5_advance RX5 1 none 2 40 := C
  have D := dtX5_advance
  subst hkl
  have hX0 := hX
  obtain ⟨htn, hst, hs1, hN2⟩ := hX
  have hX := hX0
  have lp0 : ∀ (nn0 : Nat) (p1 : Nat) (hp0 : xI), (p1 ≤ n) → (hp0 t 3 = nI p1) → (∀ q i, (q ≠ t ∨ i < 3) → hp0 q i = h q i) → n + 1 - p1 ≤ nn0 → X k w (Zq k w (pQv (fun h' => (∀ q i, (q ≠ t ∨ i < 3) → h' q i = h q i) ∧ tM h' t n))) 0 [some (.ref (wA w (t)))] [] hp0 g := by
    intro nn0
    induction nn0 with
    | zero => intro p1 hp0 hc0_0 hc0_1 hc0_2 hz; exact absurd hz (by omega)
    | succ nn0 ih0 =>
      intro p1 hp0 hc0_0 hc0_1 hc0_2 hz0
      refine X_aload_n C 0 (D (0, .aload_n 0, 1) (mg 0 rfl)) rfl rfl ?_
      refine X_get (v := .int (hp0 (t) 3)) C (t) 3 (by omega) hst rfl rfl (by decide) inX5 fX5_22 rfl (D (1, .getfield 22, 3) (mg 1 rfl)) rfl ?_
      refine X_ti (y := nI (p1)) (hc0_1) ?_
      refine X_aload_n C 0 (D (4, .aload_n 0, 1) (mg 2 rfl)) rfl rfl ?_
      refine X_get (v := .int (hp0 (t) 2)) C (t) 2 (by omega) hst rfl rfl (by decide) inX5 fX5_39 rfl (D (5, .getfield 39, 3) (mg 3 rfl)) rfl ?_
      refine X_ti (y := nI (n)) (((hc0_2 _ _ (by omega)).trans hb)) ?_
      refine X_icmp_ge (tgt := 38) C (D (8, .if_icmp .ge 30, 3) (mg 4 rfl)) (by decide) (fun q1 => ?_) (fun q1 => ?_)
      · skip
        have q1 : (p1) ≥ (n) := by have z := (nI_leI (a := (n)) (b := (p1)) (by omega) (by omega)).mp q1; omega
        refine X_aload_n C 0 (D (38, .aload_n 0, 1) (mg 19 rfl)) rfl rfl ?_
        refine X_aload_n C 0 (D (39, .aload_n 0, 1) (mg 20 rfl)) rfl rfl ?_
        refine X_get (v := .int (hp0 (t) 3)) C (t) 3 (by omega) hst rfl rfl (by decide) inX5 fX5_22 rfl (D (40, .getfield 22, 3) (mg 21 rfl)) rfl ?_
        refine X_ti (y := nI (p1)) (hc0_1) ?_
        refine X_putI C (t) 4 tyX5 tyX5_ok nmX5 (by omega) hst rfl rfl (by decide) inX5 fX5_36 rfl rfl (by decide +kernel) (D (43, .putfield 36, 3) (mg 22 rfl)) ?_
        refine X_aload_n C 0 (D (46, .aload_n 0, 1) (mg 23 rfl)) rfl rfl ?_
        refine X_get (v := .int ((u2 hp0 (t) 4 (nI (p1))) (t) 3)) C (t) 3 (by omega) hst rfl rfl (by decide) inX5 fX5_22 rfl (D (47, .getfield 22, 3) (mg 24 rfl)) rfl ?_
        refine X_ti (y := nI (p1)) (((u2_i _ _ _ _ (by omega))).trans hc0_1) ?_
        refine X_aload_n C 0 (D (50, .aload_n 0, 1) (mg 25 rfl)) rfl rfl ?_
        refine X_get (v := .int ((u2 hp0 (t) 4 (nI (p1))) (t) 2)) C (t) 2 (by omega) hst rfl rfl (by decide) inX5 fX5_39 rfl (D (51, .getfield 39, 3) (mg 26 rfl)) rfl ?_
        refine X_ti (y := nI (n)) (((u2_i _ _ _ _ (by omega))).trans ((hc0_2 _ _ (by omega)).trans hb)) ?_
        refine X_icmp_lt (tgt := 65) C (D (54, .if_icmp .lt 11, 3) (mg 27 rfl)) (by decide) (fun q2 => ?_) (fun q2 => ?_)
        · skip
          have q2 : (p1) < (n) := by have z := (nI_ltI (a := (p1)) (b := (n)) (by omega) (by omega)).mp q2; omega
          refine X_aload_n C 0 (D (65, .aload_n 0, 1) (mg 32 rfl)) rfl rfl ?_
          refine X_get (v := .ref (wA w (t + 1))) C (t) 0 (by omega) hst rfl rfl (by decide) inX5 fX5_9 rfl (D (66, .getfield 9, 3) (mg 33 rfl)) rfl ?_
          refine X_aload_n C 0 (D (69, .aload_n 0, 1) (mg 34 rfl)) rfl rfl ?_
          refine X_get (v := .int ((u2 hp0 (t) 4 (nI (p1))) (t) 3)) C (t) 3 (by omega) hst rfl rfl (by decide) inX5 fX5_22 rfl (D (70, .getfield 22, 3) (mg 35 rfl)) rfl ?_
          refine X_ti (y := nI (p1)) (((u2_i _ _ _ _ (by omega))).trans hc0_1) ?_
          refine X_iald (v := (u2 hp0 (t) 4 (nI (p1))) (t + 1) (p1)) C (t + 1) (by omega) hs1 (vp_in_nI (by omega) (by omega)) (D (73, .iaload, 1) (mg 36 rfl)) (by rw [nI_clamp (by omega)]) ?_
          refine X_cS (As := [.int ((u2 hp0 (t) 4 (nI (p1))) (t + 1) (p1))]) (st := []) C (post := _) (ct_X5_isLetter hw ((u2 hp0 (t) 4 (nI (p1))) (t + 1) (p1)) (u2 hp0 (t) 4 (nI (p1))) g) kX5_42 (by decide) (by decide) rfl rfl (Nat.le_of_ble_eq_true rfl) (D (74, .invokestatic 42, 3) (mg 37 rfl)) rfl (fun v5 H3 G4 hv5 => ?_)
          obtain ⟨rfl, rfl, rfl⟩ := hv5
          show X k w _ 77 [some (.ref (wA w (t)))] [.int (if 97 ≤ ((u2 hp0 (t) 4 (nI (p1))) (t + 1) (p1)).toInt ∧ ((u2 hp0 (t) 4 (nI (p1))) (t + 1) (p1)).toInt ≤ 122 then 1 else 0)] (u2 hp0 (t) 4 (nI (p1))) g
          refine X_if_eq (tgt := 87) C (D (77, .ifCond .eq 10, 3) (mg 38 rfl)) (by decide) (fun q6 => ?_) (fun q6 => ?_)
          · skip
            have q6 : ¬ (97 ≤ ((u2 hp0 (t) 4 (nI (p1))) (t + 1) (p1)).toInt ∧ ((u2 hp0 (t) 4 (nI (p1))) (t + 1) (p1)).toInt ≤ 122) := bz0.mp q6
            refine X_aload_n C 0 (D (87, .aload_n 0, 1) (mg 42 rfl)) rfl rfl ?_
            refine X_get (v := .ref (wA w (t + 1))) C (t) 0 (by omega) hst rfl rfl (by decide) inX5 fX5_9 rfl (D (88, .getfield 9, 3) (mg 43 rfl)) rfl ?_
            refine X_aload_n C 0 (D (91, .aload_n 0, 1) (mg 44 rfl)) rfl rfl ?_
            refine X_get (v := .int ((u2 hp0 (t) 4 (nI (p1))) (t) 3)) C (t) 3 (by omega) hst rfl rfl (by decide) inX5 fX5_22 rfl (D (92, .getfield 22, 3) (mg 45 rfl)) rfl ?_
            refine X_ti (y := nI (p1)) (((u2_i _ _ _ _ (by omega))).trans hc0_1) ?_
            refine X_iald (v := (u2 hp0 (t) 4 (nI (p1))) (t + 1) (p1)) C (t + 1) (by omega) hs1 (vp_in_nI (by omega) (by omega)) (D (95, .iaload, 1) (mg 46 rfl)) (by rw [nI_clamp (by omega)]) ?_
            refine X_cS (As := [.int ((u2 hp0 (t) 4 (nI (p1))) (t + 1) (p1))]) (st := []) C (post := _) (ct_X5_isFigure hw ((u2 hp0 (t) 4 (nI (p1))) (t + 1) (p1)) (u2 hp0 (t) 4 (nI (p1))) g) kX5_49 (by decide) (by decide) rfl rfl (Nat.le_of_ble_eq_true rfl) (D (96, .invokestatic 49, 3) (mg 47 rfl)) rfl (fun v9 H7 G8 hv9 => ?_)
            obtain ⟨rfl, rfl, rfl⟩ := hv9
            show X k w _ 99 [some (.ref (wA w (t)))] [.int (if 48 ≤ ((u2 hp0 (t) 4 (nI (p1))) (t + 1) (p1)).toInt ∧ ((u2 hp0 (t) 4 (nI (p1))) (t + 1) (p1)).toInt ≤ 57 then 1 else 0)] (u2 hp0 (t) 4 (nI (p1))) g
            refine X_if_eq (tgt := 109) C (D (99, .ifCond .eq 10, 3) (mg 48 rfl)) (by decide) (fun q10 => ?_) (fun q10 => ?_)
            · skip
              have q10 : ¬ (48 ≤ ((u2 hp0 (t) 4 (nI (p1))) (t + 1) (p1)).toInt ∧ ((u2 hp0 (t) 4 (nI (p1))) (t + 1) (p1)).toInt ≤ 57) := bz0.mp q10
              refine X_aload_n C 0 (D (109, .aload_n 0, 1) (mg 52 rfl)) rfl rfl ?_
              refine X_aload_n C 0 (D (110, .aload_n 0, 1) (mg 53 rfl)) rfl rfl ?_
              refine X_get (v := .ref (wA w (t + 1))) C (t) 0 (by omega) hst rfl rfl (by decide) inX5 fX5_9 rfl (D (111, .getfield 9, 3) (mg 54 rfl)) rfl ?_
              refine X_aload_n C 0 (D (114, .aload_n 0, 1) (mg 55 rfl)) rfl rfl ?_
              refine X_get (v := .int ((u2 hp0 (t) 4 (nI (p1))) (t) 3)) C (t) 3 (by omega) hst rfl rfl (by decide) inX5 fX5_22 rfl (D (115, .getfield 22, 3) (mg 56 rfl)) rfl ?_
              refine X_ti (y := nI (p1)) (((u2_i _ _ _ _ (by omega))).trans hc0_1) ?_
              refine X_iald (v := (u2 hp0 (t) 4 (nI (p1))) (t + 1) (p1)) C (t + 1) (by omega) hs1 (vp_in_nI (by omega) (by omega)) (D (118, .iaload, 1) (mg 57 rfl)) (by rw [nI_clamp (by omega)]) ?_
              refine X_bipush (v := nI (59)) C (D (119, .bipush 59, 2) (mg 58 rfl)) (by decide) ?_
              refine X_icmp_ne (tgt := 128) C (D (121, .if_icmp .ne 7, 3) (mg 59 rfl)) (by decide) (fun q11 => ?_) (fun q11 => ?_)
              · skip
                refine X_iconst (v := nI (3)) C (D (128, .iconst 3, 1) (mg 62 rfl)) (by decide) ?_
                refine X_putI C (t) 5 tyX5 tyX5_ok nmX5 (by omega) hst rfl rfl (by decide) inX5 fX5_29 rfl rfl (by decide +kernel) (D (129, .putfield 29, 3) (mg 63 rfl)) ?_
                refine X_aload_n C 0 (D (132, .aload_n 0, 1) (mg 64 rfl)) rfl rfl ?_
                refine X_dup C (D (133, .dup, 1) (mg 65 rfl)) rfl ?_
                refine X_get (v := .int ((u2 (u2 hp0 (t) 4 (nI (p1))) (t) 5 (nI (3))) (t) 3)) C (t) 3 (by omega) hst rfl rfl (by decide) inX5 fX5_22 rfl (D (134, .getfield 22, 3) (mg 66 rfl)) rfl ?_
                refine X_ti (y := nI (p1)) ((((u2_i _ _ _ _ (by omega))).trans (u2_i _ _ _ _ (by omega))).trans hc0_1) ?_
                refine X_iconst (v := nI (1)) C (D (137, .iconst 1, 1) (mg 67 rfl)) (by decide) ?_
                refine X_iadd C (D (138, .iadd, 1) (mg 68 rfl)) ?_
                refine X_ti (y := nI (p1 + 1)) (nI_add (p1) (1)) ?_
                refine X_putI C (t) 3 tyX5 tyX5_ok nmX5 (by omega) hst rfl rfl (by decide) inX5 fX5_22 rfl rfl (by decide +kernel) (D (139, .putfield 22, 3) (mg 69 rfl)) ?_
                exact X_vret C (D (142, .return_, 1) (mg 70 rfl)) ⟨rfl, fun q i z => by rw [u2_ne _ _ _ _ (by omega), u2_ne _ _ _ _ (by omega), u2_ne _ _ _ _ (by omega)]; exact hc0_2 q i z, p1 + 1, p1, by omega, by omega, ((u2_s _ _ _ _)), ((((u2_i _ _ _ _ (by omega))).trans (u2_i _ _ _ _ (by omega))).trans (u2_s _ _ _ _))⟩
              · skip
                refine X_iconst (v := nI (2)) C (D (124, .iconst 2, 1) (mg 60 rfl)) (by decide) ?_
                refine X_goto (tgt := 129) C (D (125, .goto 4, 3) (mg 61 rfl)) (by decide) ?_
                refine X_putI C (t) 5 tyX5 tyX5_ok nmX5 (by omega) hst rfl rfl (by decide) inX5 fX5_29 rfl rfl (by decide +kernel) (D (129, .putfield 29, 3) (mg 63 rfl)) ?_
                refine X_aload_n C 0 (D (132, .aload_n 0, 1) (mg 64 rfl)) rfl rfl ?_
                refine X_dup C (D (133, .dup, 1) (mg 65 rfl)) rfl ?_
                refine X_get (v := .int ((u2 (u2 hp0 (t) 4 (nI (p1))) (t) 5 (nI (2))) (t) 3)) C (t) 3 (by omega) hst rfl rfl (by decide) inX5 fX5_22 rfl (D (134, .getfield 22, 3) (mg 66 rfl)) rfl ?_
                refine X_ti (y := nI (p1)) ((((u2_i _ _ _ _ (by omega))).trans (u2_i _ _ _ _ (by omega))).trans hc0_1) ?_
                refine X_iconst (v := nI (1)) C (D (137, .iconst 1, 1) (mg 67 rfl)) (by decide) ?_
                refine X_iadd C (D (138, .iadd, 1) (mg 68 rfl)) ?_
                refine X_ti (y := nI (p1 + 1)) (nI_add (p1) (1)) ?_
                refine X_putI C (t) 3 tyX5 tyX5_ok nmX5 (by omega) hst rfl rfl (by decide) inX5 fX5_22 rfl rfl (by decide +kernel) (D (139, .putfield 22, 3) (mg 69 rfl)) ?_
                exact X_vret C (D (142, .return_, 1) (mg 70 rfl)) ⟨rfl, fun q i z => by rw [u2_ne _ _ _ _ (by omega), u2_ne _ _ _ _ (by omega), u2_ne _ _ _ _ (by omega)]; exact hc0_2 q i z, p1 + 1, p1, by omega, by omega, ((u2_s _ _ _ _)), ((((u2_i _ _ _ _ (by omega))).trans (u2_i _ _ _ _ (by omega))).trans (u2_s _ _ _ _))⟩
            · skip
              have q10 : (48 ≤ ((u2 hp0 (t) 4 (nI (p1))) (t + 1) (p1)).toInt ∧ ((u2 hp0 (t) 4 (nI (p1))) (t + 1) (p1)).toInt ≤ 57) := bz1.mp q10
              refine X_aload_n C 0 (D (102, .aload_n 0, 1) (mg 49 rfl)) rfl rfl ?_
              refine X_cV (As := []) (st := []) C (post := _) (t) (by omega) hst rfl (ct_X5_advanceNumber hw (t := t) (n := n) hX hn (p := p1) (s0 := p1) (by omega) (by omega) (u2 hp0 (t) 4 (nI (p1))) g (((u2_i _ _ _ _ (by omega))).trans ((hc0_2 _ _ (by omega)).trans hb)) (((u2_i _ _ _ _ (by omega))).trans hc0_1) ((u2_s _ _ _ _))) kX5_52 (by decide) (by decide) rfl rfl (Nat.le_of_ble_eq_true rfl) (D (103, .invokevirtual 52, 3) (mg 50 rfl)) rfl (fun v14 H12 G13 hv14 => ?_)
              obtain ⟨rfl, f15, p16, hlp16, hup16, ep16⟩ := hv14
              show X k w _ 106 [some (.ref (wA w (t)))] [] H12 G13
              refine X_goto (tgt := 142) C (D (106, .goto 36, 3) (mg 51 rfl)) (by decide) ?_
              exact X_vret C (D (142, .return_, 1) (mg 70 rfl)) ⟨rfl, fun q i z => by rw [f15 _ _ (by omega), u2_ne _ _ _ _ (by omega)]; exact hc0_2 q i z, p16, p1, by omega, by omega, (ep16), (((f15 _ _ (by omega))).trans (u2_s _ _ _ _))⟩
          · skip
            have q6 : (97 ≤ ((u2 hp0 (t) 4 (nI (p1))) (t + 1) (p1)).toInt ∧ ((u2 hp0 (t) 4 (nI (p1))) (t + 1) (p1)).toInt ≤ 122) := bz1.mp q6
            refine X_aload_n C 0 (D (80, .aload_n 0, 1) (mg 39 rfl)) rfl rfl ?_
            refine X_cV (As := []) (st := []) C (post := _) (t) (by omega) hst rfl (ct_X5_advanceWord hw (t := t) (n := n) hX hn (p := p1) (s0 := p1) (by omega) (by omega) (u2 hp0 (t) 4 (nI (p1))) g (((u2_i _ _ _ _ (by omega))).trans ((hc0_2 _ _ (by omega)).trans hb)) (((u2_i _ _ _ _ (by omega))).trans hc0_1) ((u2_s _ _ _ _))) kX5_46 (by decide) (by decide) rfl rfl (Nat.le_of_ble_eq_true rfl) (D (81, .invokevirtual 46, 3) (mg 40 rfl)) rfl (fun v19 H17 G18 hv19 => ?_)
            obtain ⟨rfl, f20, p21, hlp21, hup21, ep21⟩ := hv19
            show X k w _ 84 [some (.ref (wA w (t)))] [] H17 G18
            refine X_goto (tgt := 142) C (D (84, .goto 58, 3) (mg 41 rfl)) (by decide) ?_
            exact X_vret C (D (142, .return_, 1) (mg 70 rfl)) ⟨rfl, fun q i z => by rw [f20 _ _ (by omega), u2_ne _ _ _ _ (by omega)]; exact hc0_2 q i z, p21, p1, by omega, by omega, (ep21), (((f20 _ _ (by omega))).trans (u2_s _ _ _ _))⟩
        · skip
          have q2 : (p1) ≥ (n) := by have z : ¬ ((p1) < (n)) := fun u => q2 ((nI_ltI (a := (p1)) (b := (n)) (by omega) (by omega)).mpr u); omega
          refine X_aload_n C 0 (D (57, .aload_n 0, 1) (mg 28 rfl)) rfl rfl ?_
          refine X_iconst (v := nI (4)) C (D (58, .iconst 4, 1) (mg 29 rfl)) (by decide) ?_
          refine X_putI C (t) 5 tyX5 tyX5_ok nmX5 (by omega) hst rfl rfl (by decide) inX5 fX5_29 rfl rfl (by decide +kernel) (D (59, .putfield 29, 3) (mg 30 rfl)) ?_
          refine X_goto (tgt := 142) C (D (62, .goto 80, 3) (mg 31 rfl)) (by decide) ?_
          exact X_vret C (D (142, .return_, 1) (mg 70 rfl)) ⟨rfl, fun q i z => by rw [u2_ne _ _ _ _ (by omega), u2_ne _ _ _ _ (by omega)]; exact hc0_2 q i z, p1, p1, by omega, by omega, ((((u2_i _ _ _ _ (by omega))).trans (u2_i _ _ _ _ (by omega))).trans hc0_1), (((u2_i _ _ _ _ (by omega))).trans (u2_s _ _ _ _))⟩
      · skip
        have q1 : (p1) < (n) := by have z : ¬ ((n) ≤ (p1)) := fun u => q1 ((nI_leI (a := (n)) (b := (p1)) (by omega) (by omega)).mpr u); omega
        refine X_aload_n C 0 (D (11, .aload_n 0, 1) (mg 5 rfl)) rfl rfl ?_
        refine X_get (v := .ref (wA w (t + 1))) C (t) 0 (by omega) hst rfl rfl (by decide) inX5 fX5_9 rfl (D (12, .getfield 9, 3) (mg 6 rfl)) rfl ?_
        refine X_aload_n C 0 (D (15, .aload_n 0, 1) (mg 7 rfl)) rfl rfl ?_
        refine X_get (v := .int (hp0 (t) 3)) C (t) 3 (by omega) hst rfl rfl (by decide) inX5 fX5_22 rfl (D (16, .getfield 22, 3) (mg 8 rfl)) rfl ?_
        refine X_ti (y := nI (p1)) (hc0_1) ?_
        refine X_iald (v := hp0 (t + 1) (p1)) C (t + 1) (by omega) hs1 (vp_in_nI (by omega) (by omega)) (D (19, .iaload, 1) (mg 9 rfl)) (by rw [nI_clamp (by omega)]) ?_
        refine X_bipush (v := nI (32)) C (D (20, .bipush 32, 2) (mg 10 rfl)) (by decide) ?_
        refine X_icmp_ne (tgt := 38) C (D (22, .if_icmp .ne 16, 3) (mg 11 rfl)) (by decide) (fun q22 => ?_) (fun q22 => ?_)
        · skip
          refine X_aload_n C 0 (D (38, .aload_n 0, 1) (mg 19 rfl)) rfl rfl ?_
          refine X_aload_n C 0 (D (39, .aload_n 0, 1) (mg 20 rfl)) rfl rfl ?_
          refine X_get (v := .int (hp0 (t) 3)) C (t) 3 (by omega) hst rfl rfl (by decide) inX5 fX5_22 rfl (D (40, .getfield 22, 3) (mg 21 rfl)) rfl ?_
          refine X_ti (y := nI (p1)) (hc0_1) ?_
          refine X_putI C (t) 4 tyX5 tyX5_ok nmX5 (by omega) hst rfl rfl (by decide) inX5 fX5_36 rfl rfl (by decide +kernel) (D (43, .putfield 36, 3) (mg 22 rfl)) ?_
          refine X_aload_n C 0 (D (46, .aload_n 0, 1) (mg 23 rfl)) rfl rfl ?_
          refine X_get (v := .int ((u2 hp0 (t) 4 (nI (p1))) (t) 3)) C (t) 3 (by omega) hst rfl rfl (by decide) inX5 fX5_22 rfl (D (47, .getfield 22, 3) (mg 24 rfl)) rfl ?_
          refine X_ti (y := nI (p1)) (((u2_i _ _ _ _ (by omega))).trans hc0_1) ?_
          refine X_aload_n C 0 (D (50, .aload_n 0, 1) (mg 25 rfl)) rfl rfl ?_
          refine X_get (v := .int ((u2 hp0 (t) 4 (nI (p1))) (t) 2)) C (t) 2 (by omega) hst rfl rfl (by decide) inX5 fX5_39 rfl (D (51, .getfield 39, 3) (mg 26 rfl)) rfl ?_
          refine X_ti (y := nI (n)) (((u2_i _ _ _ _ (by omega))).trans ((hc0_2 _ _ (by omega)).trans hb)) ?_
          refine X_icmp_lt (tgt := 65) C (D (54, .if_icmp .lt 11, 3) (mg 27 rfl)) (by decide) (fun q23 => ?_) (fun q23 => ?_)
          · skip
            have q23 : (p1) < (n) := by have z := (nI_ltI (a := (p1)) (b := (n)) (by omega) (by omega)).mp q23; omega
            refine X_aload_n C 0 (D (65, .aload_n 0, 1) (mg 32 rfl)) rfl rfl ?_
            refine X_get (v := .ref (wA w (t + 1))) C (t) 0 (by omega) hst rfl rfl (by decide) inX5 fX5_9 rfl (D (66, .getfield 9, 3) (mg 33 rfl)) rfl ?_
            refine X_aload_n C 0 (D (69, .aload_n 0, 1) (mg 34 rfl)) rfl rfl ?_
            refine X_get (v := .int ((u2 hp0 (t) 4 (nI (p1))) (t) 3)) C (t) 3 (by omega) hst rfl rfl (by decide) inX5 fX5_22 rfl (D (70, .getfield 22, 3) (mg 35 rfl)) rfl ?_
            refine X_ti (y := nI (p1)) (((u2_i _ _ _ _ (by omega))).trans hc0_1) ?_
            refine X_iald (v := (u2 hp0 (t) 4 (nI (p1))) (t + 1) (p1)) C (t + 1) (by omega) hs1 (vp_in_nI (by omega) (by omega)) (D (73, .iaload, 1) (mg 36 rfl)) (by rw [nI_clamp (by omega)]) ?_
            refine X_cS (As := [.int ((u2 hp0 (t) 4 (nI (p1))) (t + 1) (p1))]) (st := []) C (post := _) (ct_X5_isLetter hw ((u2 hp0 (t) 4 (nI (p1))) (t + 1) (p1)) (u2 hp0 (t) 4 (nI (p1))) g) kX5_42 (by decide) (by decide) rfl rfl (Nat.le_of_ble_eq_true rfl) (D (74, .invokestatic 42, 3) (mg 37 rfl)) rfl (fun v26 H24 G25 hv26 => ?_)
            obtain ⟨rfl, rfl, rfl⟩ := hv26
            show X k w _ 77 [some (.ref (wA w (t)))] [.int (if 97 ≤ ((u2 hp0 (t) 4 (nI (p1))) (t + 1) (p1)).toInt ∧ ((u2 hp0 (t) 4 (nI (p1))) (t + 1) (p1)).toInt ≤ 122 then 1 else 0)] (u2 hp0 (t) 4 (nI (p1))) g
            refine X_if_eq (tgt := 87) C (D (77, .ifCond .eq 10, 3) (mg 38 rfl)) (by decide) (fun q27 => ?_) (fun q27 => ?_)
            · skip
              have q27 : ¬ (97 ≤ ((u2 hp0 (t) 4 (nI (p1))) (t + 1) (p1)).toInt ∧ ((u2 hp0 (t) 4 (nI (p1))) (t + 1) (p1)).toInt ≤ 122) := bz0.mp q27
              refine X_aload_n C 0 (D (87, .aload_n 0, 1) (mg 42 rfl)) rfl rfl ?_
              refine X_get (v := .ref (wA w (t + 1))) C (t) 0 (by omega) hst rfl rfl (by decide) inX5 fX5_9 rfl (D (88, .getfield 9, 3) (mg 43 rfl)) rfl ?_
              refine X_aload_n C 0 (D (91, .aload_n 0, 1) (mg 44 rfl)) rfl rfl ?_
              refine X_get (v := .int ((u2 hp0 (t) 4 (nI (p1))) (t) 3)) C (t) 3 (by omega) hst rfl rfl (by decide) inX5 fX5_22 rfl (D (92, .getfield 22, 3) (mg 45 rfl)) rfl ?_
              refine X_ti (y := nI (p1)) (((u2_i _ _ _ _ (by omega))).trans hc0_1) ?_
              refine X_iald (v := (u2 hp0 (t) 4 (nI (p1))) (t + 1) (p1)) C (t + 1) (by omega) hs1 (vp_in_nI (by omega) (by omega)) (D (95, .iaload, 1) (mg 46 rfl)) (by rw [nI_clamp (by omega)]) ?_
              refine X_cS (As := [.int ((u2 hp0 (t) 4 (nI (p1))) (t + 1) (p1))]) (st := []) C (post := _) (ct_X5_isFigure hw ((u2 hp0 (t) 4 (nI (p1))) (t + 1) (p1)) (u2 hp0 (t) 4 (nI (p1))) g) kX5_49 (by decide) (by decide) rfl rfl (Nat.le_of_ble_eq_true rfl) (D (96, .invokestatic 49, 3) (mg 47 rfl)) rfl (fun v30 H28 G29 hv30 => ?_)
              obtain ⟨rfl, rfl, rfl⟩ := hv30
              show X k w _ 99 [some (.ref (wA w (t)))] [.int (if 48 ≤ ((u2 hp0 (t) 4 (nI (p1))) (t + 1) (p1)).toInt ∧ ((u2 hp0 (t) 4 (nI (p1))) (t + 1) (p1)).toInt ≤ 57 then 1 else 0)] (u2 hp0 (t) 4 (nI (p1))) g
              refine X_if_eq (tgt := 109) C (D (99, .ifCond .eq 10, 3) (mg 48 rfl)) (by decide) (fun q31 => ?_) (fun q31 => ?_)
              · skip
                have q31 : ¬ (48 ≤ ((u2 hp0 (t) 4 (nI (p1))) (t + 1) (p1)).toInt ∧ ((u2 hp0 (t) 4 (nI (p1))) (t + 1) (p1)).toInt ≤ 57) := bz0.mp q31
                refine X_aload_n C 0 (D (109, .aload_n 0, 1) (mg 52 rfl)) rfl rfl ?_
                refine X_aload_n C 0 (D (110, .aload_n 0, 1) (mg 53 rfl)) rfl rfl ?_
                refine X_get (v := .ref (wA w (t + 1))) C (t) 0 (by omega) hst rfl rfl (by decide) inX5 fX5_9 rfl (D (111, .getfield 9, 3) (mg 54 rfl)) rfl ?_
                refine X_aload_n C 0 (D (114, .aload_n 0, 1) (mg 55 rfl)) rfl rfl ?_
                refine X_get (v := .int ((u2 hp0 (t) 4 (nI (p1))) (t) 3)) C (t) 3 (by omega) hst rfl rfl (by decide) inX5 fX5_22 rfl (D (115, .getfield 22, 3) (mg 56 rfl)) rfl ?_
                refine X_ti (y := nI (p1)) (((u2_i _ _ _ _ (by omega))).trans hc0_1) ?_
                refine X_iald (v := (u2 hp0 (t) 4 (nI (p1))) (t + 1) (p1)) C (t + 1) (by omega) hs1 (vp_in_nI (by omega) (by omega)) (D (118, .iaload, 1) (mg 57 rfl)) (by rw [nI_clamp (by omega)]) ?_
                refine X_bipush (v := nI (59)) C (D (119, .bipush 59, 2) (mg 58 rfl)) (by decide) ?_
                refine X_icmp_ne (tgt := 128) C (D (121, .if_icmp .ne 7, 3) (mg 59 rfl)) (by decide) (fun q32 => ?_) (fun q32 => ?_)
                · skip
                  refine X_iconst (v := nI (3)) C (D (128, .iconst 3, 1) (mg 62 rfl)) (by decide) ?_
                  refine X_putI C (t) 5 tyX5 tyX5_ok nmX5 (by omega) hst rfl rfl (by decide) inX5 fX5_29 rfl rfl (by decide +kernel) (D (129, .putfield 29, 3) (mg 63 rfl)) ?_
                  refine X_aload_n C 0 (D (132, .aload_n 0, 1) (mg 64 rfl)) rfl rfl ?_
                  refine X_dup C (D (133, .dup, 1) (mg 65 rfl)) rfl ?_
                  refine X_get (v := .int ((u2 (u2 hp0 (t) 4 (nI (p1))) (t) 5 (nI (3))) (t) 3)) C (t) 3 (by omega) hst rfl rfl (by decide) inX5 fX5_22 rfl (D (134, .getfield 22, 3) (mg 66 rfl)) rfl ?_
                  refine X_ti (y := nI (p1)) ((((u2_i _ _ _ _ (by omega))).trans (u2_i _ _ _ _ (by omega))).trans hc0_1) ?_
                  refine X_iconst (v := nI (1)) C (D (137, .iconst 1, 1) (mg 67 rfl)) (by decide) ?_
                  refine X_iadd C (D (138, .iadd, 1) (mg 68 rfl)) ?_
                  refine X_ti (y := nI (p1 + 1)) (nI_add (p1) (1)) ?_
                  refine X_putI C (t) 3 tyX5 tyX5_ok nmX5 (by omega) hst rfl rfl (by decide) inX5 fX5_22 rfl rfl (by decide +kernel) (D (139, .putfield 22, 3) (mg 69 rfl)) ?_
                  exact X_vret C (D (142, .return_, 1) (mg 70 rfl)) ⟨rfl, fun q i z => by rw [u2_ne _ _ _ _ (by omega), u2_ne _ _ _ _ (by omega), u2_ne _ _ _ _ (by omega)]; exact hc0_2 q i z, p1 + 1, p1, by omega, by omega, ((u2_s _ _ _ _)), ((((u2_i _ _ _ _ (by omega))).trans (u2_i _ _ _ _ (by omega))).trans (u2_s _ _ _ _))⟩
                · skip
                  refine X_iconst (v := nI (2)) C (D (124, .iconst 2, 1) (mg 60 rfl)) (by decide) ?_
                  refine X_goto (tgt := 129) C (D (125, .goto 4, 3) (mg 61 rfl)) (by decide) ?_
                  refine X_putI C (t) 5 tyX5 tyX5_ok nmX5 (by omega) hst rfl rfl (by decide) inX5 fX5_29 rfl rfl (by decide +kernel) (D (129, .putfield 29, 3) (mg 63 rfl)) ?_
                  refine X_aload_n C 0 (D (132, .aload_n 0, 1) (mg 64 rfl)) rfl rfl ?_
                  refine X_dup C (D (133, .dup, 1) (mg 65 rfl)) rfl ?_
                  refine X_get (v := .int ((u2 (u2 hp0 (t) 4 (nI (p1))) (t) 5 (nI (2))) (t) 3)) C (t) 3 (by omega) hst rfl rfl (by decide) inX5 fX5_22 rfl (D (134, .getfield 22, 3) (mg 66 rfl)) rfl ?_
                  refine X_ti (y := nI (p1)) ((((u2_i _ _ _ _ (by omega))).trans (u2_i _ _ _ _ (by omega))).trans hc0_1) ?_
                  refine X_iconst (v := nI (1)) C (D (137, .iconst 1, 1) (mg 67 rfl)) (by decide) ?_
                  refine X_iadd C (D (138, .iadd, 1) (mg 68 rfl)) ?_
                  refine X_ti (y := nI (p1 + 1)) (nI_add (p1) (1)) ?_
                  refine X_putI C (t) 3 tyX5 tyX5_ok nmX5 (by omega) hst rfl rfl (by decide) inX5 fX5_22 rfl rfl (by decide +kernel) (D (139, .putfield 22, 3) (mg 69 rfl)) ?_
                  exact X_vret C (D (142, .return_, 1) (mg 70 rfl)) ⟨rfl, fun q i z => by rw [u2_ne _ _ _ _ (by omega), u2_ne _ _ _ _ (by omega), u2_ne _ _ _ _ (by omega)]; exact hc0_2 q i z, p1 + 1, p1, by omega, by omega, ((u2_s _ _ _ _)), ((((u2_i _ _ _ _ (by omega))).trans (u2_i _ _ _ _ (by omega))).trans (u2_s _ _ _ _))⟩
              · skip
                have q31 : (48 ≤ ((u2 hp0 (t) 4 (nI (p1))) (t + 1) (p1)).toInt ∧ ((u2 hp0 (t) 4 (nI (p1))) (t + 1) (p1)).toInt ≤ 57) := bz1.mp q31
                refine X_aload_n C 0 (D (102, .aload_n 0, 1) (mg 49 rfl)) rfl rfl ?_
                refine X_cV (As := []) (st := []) C (post := _) (t) (by omega) hst rfl (ct_X5_advanceNumber hw (t := t) (n := n) hX hn (p := p1) (s0 := p1) (by omega) (by omega) (u2 hp0 (t) 4 (nI (p1))) g (((u2_i _ _ _ _ (by omega))).trans ((hc0_2 _ _ (by omega)).trans hb)) (((u2_i _ _ _ _ (by omega))).trans hc0_1) ((u2_s _ _ _ _))) kX5_52 (by decide) (by decide) rfl rfl (Nat.le_of_ble_eq_true rfl) (D (103, .invokevirtual 52, 3) (mg 50 rfl)) rfl (fun v35 H33 G34 hv35 => ?_)
                obtain ⟨rfl, f36, p37, hlp37, hup37, ep37⟩ := hv35
                show X k w _ 106 [some (.ref (wA w (t)))] [] H33 G34
                refine X_goto (tgt := 142) C (D (106, .goto 36, 3) (mg 51 rfl)) (by decide) ?_
                exact X_vret C (D (142, .return_, 1) (mg 70 rfl)) ⟨rfl, fun q i z => by rw [f36 _ _ (by omega), u2_ne _ _ _ _ (by omega)]; exact hc0_2 q i z, p37, p1, by omega, by omega, (ep37), (((f36 _ _ (by omega))).trans (u2_s _ _ _ _))⟩
            · skip
              have q27 : (97 ≤ ((u2 hp0 (t) 4 (nI (p1))) (t + 1) (p1)).toInt ∧ ((u2 hp0 (t) 4 (nI (p1))) (t + 1) (p1)).toInt ≤ 122) := bz1.mp q27
              refine X_aload_n C 0 (D (80, .aload_n 0, 1) (mg 39 rfl)) rfl rfl ?_
              refine X_cV (As := []) (st := []) C (post := _) (t) (by omega) hst rfl (ct_X5_advanceWord hw (t := t) (n := n) hX hn (p := p1) (s0 := p1) (by omega) (by omega) (u2 hp0 (t) 4 (nI (p1))) g (((u2_i _ _ _ _ (by omega))).trans ((hc0_2 _ _ (by omega)).trans hb)) (((u2_i _ _ _ _ (by omega))).trans hc0_1) ((u2_s _ _ _ _))) kX5_46 (by decide) (by decide) rfl rfl (Nat.le_of_ble_eq_true rfl) (D (81, .invokevirtual 46, 3) (mg 40 rfl)) rfl (fun v40 H38 G39 hv40 => ?_)
              obtain ⟨rfl, f41, p42, hlp42, hup42, ep42⟩ := hv40
              show X k w _ 84 [some (.ref (wA w (t)))] [] H38 G39
              refine X_goto (tgt := 142) C (D (84, .goto 58, 3) (mg 41 rfl)) (by decide) ?_
              exact X_vret C (D (142, .return_, 1) (mg 70 rfl)) ⟨rfl, fun q i z => by rw [f41 _ _ (by omega), u2_ne _ _ _ _ (by omega)]; exact hc0_2 q i z, p42, p1, by omega, by omega, (ep42), (((f41 _ _ (by omega))).trans (u2_s _ _ _ _))⟩
          · skip
            have q23 : (p1) ≥ (n) := by have z : ¬ ((p1) < (n)) := fun u => q23 ((nI_ltI (a := (p1)) (b := (n)) (by omega) (by omega)).mpr u); omega
            refine X_aload_n C 0 (D (57, .aload_n 0, 1) (mg 28 rfl)) rfl rfl ?_
            refine X_iconst (v := nI (4)) C (D (58, .iconst 4, 1) (mg 29 rfl)) (by decide) ?_
            refine X_putI C (t) 5 tyX5 tyX5_ok nmX5 (by omega) hst rfl rfl (by decide) inX5 fX5_29 rfl rfl (by decide +kernel) (D (59, .putfield 29, 3) (mg 30 rfl)) ?_
            refine X_goto (tgt := 142) C (D (62, .goto 80, 3) (mg 31 rfl)) (by decide) ?_
            exact X_vret C (D (142, .return_, 1) (mg 70 rfl)) ⟨rfl, fun q i z => by rw [u2_ne _ _ _ _ (by omega), u2_ne _ _ _ _ (by omega)]; exact hc0_2 q i z, p1, p1, by omega, by omega, ((((u2_i _ _ _ _ (by omega))).trans (u2_i _ _ _ _ (by omega))).trans hc0_1), (((u2_i _ _ _ _ (by omega))).trans (u2_s _ _ _ _))⟩
        · skip
          refine X_aload_n C 0 (D (25, .aload_n 0, 1) (mg 12 rfl)) rfl rfl ?_
          refine X_dup C (D (26, .dup, 1) (mg 13 rfl)) rfl ?_
          refine X_get (v := .int (hp0 (t) 3)) C (t) 3 (by omega) hst rfl rfl (by decide) inX5 fX5_22 rfl (D (27, .getfield 22, 3) (mg 14 rfl)) rfl ?_
          refine X_ti (y := nI (p1)) (hc0_1) ?_
          refine X_iconst (v := nI (1)) C (D (30, .iconst 1, 1) (mg 15 rfl)) (by decide) ?_
          refine X_iadd C (D (31, .iadd, 1) (mg 16 rfl)) ?_
          refine X_ti (y := nI (p1 + 1)) (nI_add (p1) (1)) ?_
          refine X_putI C (t) 3 tyX5 tyX5_ok nmX5 (by omega) hst rfl rfl (by decide) inX5 fX5_22 rfl rfl (by decide +kernel) (D (32, .putfield 22, 3) (mg 17 rfl)) ?_
          refine X_goto (tgt := 0) C (D (35, .goto (-35), 3) (mg 18 rfl)) (by decide) ?_
          refine X_eq (ls' := [some (.ref (wA w (t)))]) (st' := []) (h' := (u2 hp0 (t) 3 (nI (p1 + 1)))) (g' := g) rfl rfl rfl rfl ?_
          exact ih0 (p1 + 1) ((u2 hp0 (t) 3 (nI (p1 + 1)))) (by omega) ((u2_s _ _ _ _)) (fun q i z => by rw [u2_ne _ _ _ _ (by omega)]; exact hc0_2 q i z) (by omega)
  refine X_eq (ls' := [some (.ref (wA w (t)))]) (st' := []) (h' := h) (g' := g) rfl rfl rfl rfl ?_
  exact lp0 _ (p) (h) (by omega) (ha) (fun q i z => rfl) (Nat.le_refl _)
theorem obtain_v {v : Int32} {A B : Nat} (h1 : ¬ v < nI A) (h2 : ¬ nI B < v) (hB : B < 2147483648 ∧ A < 2147483648) : ∃ j, A ≤ j ∧ j ≤ B ∧ v = nI j := by
  simp only [Int32.lt_iff_toInt_lt, nI_i2 hB.1, nI_i2 hB.2] at h1 h2
  obtain ⟨j, hj, rfl⟩ := nI_i (x := v) (n := B + 1) (by omega) (by omega)
  rw [nI_i2 (by omega)] at h1 h2
  exact ⟨j, by omega, by omega, rfl⟩
set_option maxHeartbeats 4000000 in
set_option maxRecDepth 100000 in
theorem ct_X5_isNumber {l : Launch} {w : Kw} (hw : wOk w) {t : Nat} (hX : shX w t) {A B : Nat} (hB : B < 2147483648 ∧ A < 2147483648) (h : xI) (g : xJ)  : Ct l w yX5_isNumber cX5_isNumber 3 (some .boolean) 0 0 [.ref (wA w (t)), .int (nI (A)), .int (nI (B))] h g (pP (fun y => ¬ y = 0 → ∃ j, A ≤ j ∧ j ≤ B ∧ h t 6 = nI j) h g) := by
  refine Ct_of (ls := [some (.ref (wA w (t))), some (.int (nI (A))), some (.int (nI (B)))]) (by decide) hw (Nat.le_of_ble_eq_true rfl) rfl (fun k hkl C => ?_)
  have C : Cx k w cX5_isNumber RX5 3 (some .boolean) 0 0 := C
  have D := dtX5_isNumber
  subst hkl
  have hX0 := hX
  obtain ⟨htn, hst, hs1, hN2⟩ := hX
  have hX := hX0
  refine X_aload_n C 0 (D (0, .aload_n 0, 1) (mg 0 rfl)) rfl rfl ?_
  refine X_get (v := .int (h (t) 5)) C (t) 5 (by omega) hst rfl rfl (by decide) inX5 fX5_29 rfl (D (1, .getfield 29, 3) (mg 1 rfl)) rfl ?_
  refine X_iconst (v := nI (1)) C (D (4, .iconst 1, 1) (mg 2 rfl)) (by decide) ?_
  refine X_icmp_ne (tgt := 28) C (D (5, .if_icmp .ne 23, 3) (mg 3 rfl)) (by decide) (fun q1 => ?_) (fun q1 => ?_)
  · skip
    refine X_iconst (v := nI (0)) C (D (28, .iconst 0, 1) (mg 14 rfl)) (by decide) ?_
    exact X_zret C (D (29, .ireturn, 1) (mg 15 rfl)) rfl ⟨⟨_, rfl, fun z => absurd rfl z⟩, rfl, rfl⟩
  · skip
    refine X_aload_n C 0 (D (8, .aload_n 0, 1) (mg 4 rfl)) rfl rfl ?_
    refine X_get (v := .int (h (t) 6)) C (t) 6 (by omega) hst rfl rfl (by decide) inX5 fX5_55 rfl (D (9, .getfield 55, 3) (mg 5 rfl)) rfl ?_
    refine X_iload_n C 1 (D (12, .iload_n 1, 1) (mg 6 rfl)) rfl rfl ?_
    refine X_icmp_lt (tgt := 28) C (D (13, .if_icmp .lt 15, 3) (mg 7 rfl)) (by decide) (fun q2 => ?_) (fun q2 => ?_)
    · skip
      refine X_iconst (v := nI (0)) C (D (28, .iconst 0, 1) (mg 14 rfl)) (by decide) ?_
      exact X_zret C (D (29, .ireturn, 1) (mg 15 rfl)) rfl ⟨⟨_, rfl, fun z => absurd rfl z⟩, rfl, rfl⟩
    · skip
      refine X_aload_n C 0 (D (16, .aload_n 0, 1) (mg 8 rfl)) rfl rfl ?_
      refine X_get (v := .int (h (t) 6)) C (t) 6 (by omega) hst rfl rfl (by decide) inX5 fX5_55 rfl (D (17, .getfield 55, 3) (mg 9 rfl)) rfl ?_
      refine X_iload_n C 2 (D (20, .iload_n 2, 1) (mg 10 rfl)) rfl rfl ?_
      refine X_icmp_gt (tgt := 28) C (D (21, .if_icmp .gt 7, 3) (mg 11 rfl)) (by decide) (fun q3 => ?_) (fun q3 => ?_)
      · skip
        refine X_iconst (v := nI (0)) C (D (28, .iconst 0, 1) (mg 14 rfl)) (by decide) ?_
        exact X_zret C (D (29, .ireturn, 1) (mg 15 rfl)) rfl ⟨⟨_, rfl, fun z => absurd rfl z⟩, rfl, rfl⟩
      · skip
        refine X_iconst (v := nI (1)) C (D (24, .iconst 1, 1) (mg 12 rfl)) (by decide) ?_
        refine X_goto (tgt := 29) C (D (25, .goto 4, 3) (mg 13 rfl)) (by decide) ?_
        exact X_zret C (D (29, .ireturn, 1) (mg 15 rfl)) rfl ⟨⟨_, rfl, fun _ => (obtain_v (by assumption) (by assumption) hB)⟩, rfl, rfl⟩
set_option maxHeartbeats 4000000 in
set_option maxRecDepth 100000 in
theorem ct_X5_isWord {l : Launch} {w : Kw} (hw : wOk w) {t n : Nat} (hX : shX w t) (hn : n ≤ 150) {aK aV : Nat → Nat} {zr : Value} (hs : sOk w aK aV zr) (hz : zr = .null ∨ ∃ ra, zr = .ref ra) {p s0 : Nat} (hp : p ≤ n) (hsp : s0 ≤ p) {i : Nat} (hi : i < 5) (h : xI) (g : xJ) (hb : h t 2 = nI n) (ha : h t 3 = nI p) (he : h t 4 = nI s0) : Ct l w yX5_isWord cX5_isWord 3 (some .boolean) 4 85 [.ref (wA w (t)), .ref (aK (i))] h g (pI h g) := by
  refine Ct_of (ls := [some (.ref (wA w (t))), some (.ref (aK (i))), none]) (by decide) hw (Nat.le_of_ble_eq_true rfl) rfl (fun k hkl C => ?_)
  have C : Cx k w cX5_isWord RX5 3 (some .boolean) 4 85 := C
  have D := dtX5_isWord
  subst hkl
  have hX0 := hX
  obtain ⟨htn, hst, hs1, hN2⟩ := hX
  have hX := hX0
  have hl5 := (s_len i hi).1
  refine X_aload_n C 0 (D (0, .aload_n 0, 1) (mg 0 rfl)) rfl rfl ?_
  refine X_get (v := .int (h (t) 3)) C (t) 3 (by omega) hst rfl rfl (by decide) inX5 fX5_22 rfl (D (1, .getfield 22, 3) (mg 1 rfl)) rfl ?_
  refine X_ti (y := nI (p)) (ha) ?_
  refine X_aload_n C 0 (D (4, .aload_n 0, 1) (mg 2 rfl)) rfl rfl ?_
  refine X_get (v := .int (h (t) 4)) C (t) 4 (by omega) hst rfl rfl (by decide) inX5 fX5_36 rfl (D (5, .getfield 36, 3) (mg 3 rfl)) rfl ?_
  refine X_ti (y := nI (s0)) (he) ?_
  refine X_isub C (D (8, .isub, 1) (mg 4 rfl)) ?_
  refine X_ti (y := nI (p - s0)) (pk_sub (by omega)) ?_
  refine X_aload_n C 1 (D (9, .aload_n 1, 1) (mg 5 rfl)) rfl rfl ?_
  refine X_cVO (As := []) (st := [.int (nI (p - s0))]) C (post := _) (fun U e => ((hs U e).1.1 _ hi).1) (ct_J0_length_8abf5 hw hs (i := i) hi h g) kX5_87 (by decide) (by decide) rfl rfl (Nat.le_of_ble_eq_true rfl) (D (10, .invokevirtual 87, 3) (mg 6 rfl)) rfl (fun v3 H1 G2 hv3 => ?_)
  obtain ⟨rfl, rfl, rfl⟩ := hv3
  show X k w _ 13 [some (.ref (wA w (t))), some (.ref (aK (i))), none] [.int (nI (sLen.getD (i) 0)), .int (nI (p - s0))] h g
  refine X_icmp_eq (tgt := 18) C (D (13, .if_icmp .eq 5, 3) (mg 7 rfl)) (by decide) (fun q4 => ?_) (fun q4 => ?_)
  · skip
    have q4 : (p - s0) = (sLen.getD (i) 0) := by have z := (nI_eq (a := (p - s0)) (b := (sLen.getD (i) 0)) (by omega) (by omega)).mp q4; omega
    refine X_iconst (v := nI (0)) C (D (18, .iconst 0, 1) (mg 10 rfl)) (by decide) ?_
    refine X_istore_n (ls' := [some (.ref (wA w (t))), some (.ref (aK (i))), some (.int (nI (0)))]) C 2 (D (19, .istore_n 2, 1) (mg 11 rfl)) rfl (Nat.le_of_ble_eq_true rfl) rfl ?_
    have lp20 : ∀ (nn20 : Nat) (j : Nat), (j ≤ sLen.getD (i) 0) → 6 - j ≤ nn20 → X k w (Zq k w (pI h g)) 20 [some (.ref (wA w (t))), some (.ref (aK (i))), some (.int (nI (j)))] [] h g := by
      intro nn20
      induction nn20 with
      | zero => intro j hc20_0 hz; exact absurd hz (by omega)
      | succ nn20 ih20 =>
        intro j hc20_0 hz20
        refine X_iload_n C 2 (D (20, .iload_n 2, 1) (mg 12 rfl)) rfl rfl ?_
        refine X_aload_n C 1 (D (21, .aload_n 1, 1) (mg 13 rfl)) rfl rfl ?_
        refine X_cVO (As := []) (st := [.int (nI (j))]) C (post := _) (fun U e => ((hs U e).1.1 _ hi).1) (ct_J0_length_8abf5 hw hs (i := i) hi h g) kX5_87 (by decide) (by decide) rfl rfl (Nat.le_of_ble_eq_true rfl) (D (22, .invokevirtual 87, 3) (mg 14 rfl)) rfl (fun v7 H5 G6 hv7 => ?_)
        obtain ⟨rfl, rfl, rfl⟩ := hv7
        show X k w _ 25 [some (.ref (wA w (t))), some (.ref (aK (i))), some (.int (nI (j)))] [.int (nI (sLen.getD (i) 0)), .int (nI (j))] h g
        refine X_icmp_ge (tgt := 55) C (D (25, .if_icmp .ge 30, 3) (mg 15 rfl)) (by decide) (fun q8 => ?_) (fun q8 => ?_)
        · skip
          have q8 : (j) ≥ (sLen.getD (i) 0) := by have z := (nI_leI (a := (sLen.getD (i) 0)) (b := (j)) (by omega) (by omega)).mp q8; omega
          refine X_iconst (v := nI (1)) C (D (55, .iconst 1, 1) (mg 31 rfl)) (by decide) ?_
          exact X_zret C (D (56, .ireturn, 1) (mg 32 rfl)) rfl ⟨⟨_, rfl⟩, rfl, rfl⟩
        · skip
          have q8 : (j) < (sLen.getD (i) 0) := by have z : ¬ ((sLen.getD (i) 0) ≤ (j)) := fun u => q8 ((nI_leI (a := (sLen.getD (i) 0)) (b := (j)) (by omega) (by omega)).mpr u); omega
          refine X_aload_n C 0 (D (28, .aload_n 0, 1) (mg 16 rfl)) rfl rfl ?_
          refine X_get (v := .ref (wA w (t + 1))) C (t) 0 (by omega) hst rfl rfl (by decide) inX5 fX5_9 rfl (D (29, .getfield 9, 3) (mg 17 rfl)) rfl ?_
          refine X_aload_n C 0 (D (32, .aload_n 0, 1) (mg 18 rfl)) rfl rfl ?_
          refine X_get (v := .int (h (t) 4)) C (t) 4 (by omega) hst rfl rfl (by decide) inX5 fX5_36 rfl (D (33, .getfield 36, 3) (mg 19 rfl)) rfl ?_
          refine X_ti (y := nI (s0)) (he) ?_
          refine X_iload_n C 2 (D (36, .iload_n 2, 1) (mg 20 rfl)) rfl rfl ?_
          refine X_iadd C (D (37, .iadd, 1) (mg 21 rfl)) ?_
          refine X_ti (y := nI (s0 + j)) (nI_add (s0) (j)) ?_
          refine X_iald (v := h (t + 1) (s0 + j)) C (t + 1) (by omega) hs1 (vp_in_nI (by omega) (by omega)) (D (38, .iaload, 1) (mg 22 rfl)) (by rw [nI_clamp (by omega)]) ?_
          refine X_aload_n C 1 (D (39, .aload_n 1, 1) (mg 23 rfl)) rfl rfl ?_
          refine X_iload_n C 2 (D (40, .iload_n 2, 1) (mg 24 rfl)) rfl rfl ?_
          refine X_cVO (As := [.int (nI (j))]) (st := [.int (h (t + 1) (s0 + j))]) C (post := _) (fun U e => ((hs U e).1.1 _ hi).1) (ct_J0_charAt_5068e hw hs hz (i := i) (j := j) hi (by omega) h g) kX5_93 (by decide) (by decide) rfl rfl (Nat.le_of_ble_eq_true rfl) (D (41, .invokevirtual 93, 3) (mg 25 rfl)) rfl (fun v11 H9 G10 hv11 => ?_)
          obtain ⟨rfl, rfl, rfl⟩ := hv11
          show X k w _ 44 [some (.ref (wA w (t))), some (.ref (aK (i))), some (.int (nI (j)))] [.int (sCh (i) (j)), .int (h (t + 1) (s0 + j))] h g
          refine X_icmp_eq (tgt := 49) C (D (44, .if_icmp .eq 5, 3) (mg 26 rfl)) (by decide) (fun q12 => ?_) (fun q12 => ?_)
          · skip
            refine X_iinc (v := nI (j + 1)) (ls' := [some (.ref (wA w (t))), some (.ref (aK (i))), some (.int (nI (j + 1)))]) C (D (49, .iinc 2 1, 3) (mg 29 rfl)) rfl (nI_add (j) 1) rfl ?_
            refine X_goto (tgt := 20) C (D (52, .goto (-32), 3) (mg 30 rfl)) (by decide) ?_
            refine X_eq (ls' := [some (.ref (wA w (t))), some (.ref (aK (i))), some (.int (nI (j + 1)))]) (st' := []) (h' := h) (g' := g) rfl rfl rfl rfl ?_
            exact ih20 (j + 1) (by omega) (by omega)
          · skip
            refine X_iconst (v := nI (0)) C (D (47, .iconst 0, 1) (mg 27 rfl)) (by decide) ?_
            exact X_zret C (D (48, .ireturn, 1) (mg 28 rfl)) rfl ⟨⟨_, rfl⟩, rfl, rfl⟩
    refine X_eq (ls' := [some (.ref (wA w (t))), some (.ref (aK (i))), some (.int (nI (0)))]) (st' := []) (h' := h) (g' := g) rfl rfl rfl rfl ?_
    exact lp20 _ (0) (by omega) (Nat.le_refl _)
  · skip
    have q4 : (p - s0) ≠ (sLen.getD (i) 0) := by have z : ¬ ((p - s0) = (sLen.getD (i) 0)) := fun u => q4 ((nI_eq (a := (p - s0)) (b := (sLen.getD (i) 0)) (by omega) (by omega)).mpr u); omega
    refine X_iconst (v := nI (0)) C (D (16, .iconst 0, 1) (mg 8 rfl)) (by decide) ?_
    exact X_zret C (D (17, .ireturn, 1) (mg 9 rfl)) rfl ⟨⟨_, rfl⟩, rfl, rfl⟩
theorem tW_t {t n : Nat} {h h1 h2 : xI} (a : tW t n h h1) (b : tW t n h1 h2) : tW t n h h2 := ⟨fun q i z1 z2 => (b.1 q i z1 z2).trans (a.1 q i z1 z2), b.2⟩
def tI (h : xI) (t n : Nat) : Prop := tM h t n ∧ atOk h (t + 2)
set_option maxHeartbeats 4000000 in
set_option maxRecDepth 100000 in
theorem ct_X5_takesNave {l : Launch} {w : Kw} (hw : wOk w) {t n : Nat} (hX : shX w t) (hn : n ≤ 150) (h : xI) (g : xJ) (hb : h t 2 = nI n) (hI : tI h t n) : Ct l w yX5_takesNave cX5_takesNave 2 (some .boolean) 3 60 [.ref (wA w (t))] h g (pQ (tW t n h)) := by
  refine Ct_of (ls := [some (.ref (wA w (t))), none]) (by decide) hw (Nat.le_of_ble_eq_true rfl) rfl (fun k hkl C => ?_)
  have C : Cx k w cX5_takesNave RX5 2 (some .boolean) 3 60 := C
  have D := dtX5_takesNave
  subst hkl
  have hX0 := hX
  obtain ⟨htn, hst, hs1, hN2⟩ := hX
  have hX := hX0
  obtain ⟨⟨p, s0, hsp, hp, ha, he⟩, ⟨c0, hc0, hat⟩⟩ := hI
  refine X_aload_n C 0 (D (0, .aload_n 0, 1) (mg 0 rfl)) rfl rfl ?_
  refine X_cV (As := []) (st := []) C (post := _) (t) (by omega) hst rfl (ct_X5_advance hw (t := t) (n := n) hX hn (p := p) (by omega) h g (hb) (ha)) kX5_26 (by decide) (by decide) rfl rfl (Nat.le_of_ble_eq_true rfl) (D (1, .invokevirtual 26, 3) (mg 1 rfl)) rfl (fun v3 H1 G2 hv3 => ?_)
  obtain ⟨rfl, f4, p5, s6, hlp5, hup5, ep5, es6⟩ := hv3
  show X k w _ 4 [some (.ref (wA w (t))), none] [] H1 G2
  refine X_aload_n C 0 (D (4, .aload_n 0, 1) (mg 2 rfl)) rfl rfl ?_
  refine X_iconst (v := nI (0)) C (D (5, .iconst 0, 1) (mg 3 rfl)) (by decide) ?_
  refine X_iconst (v := nI (5)) C (D (6, .iconst 5, 1) (mg 4 rfl)) (by decide) ?_
  refine X_cV (As := [.int (nI (0)), .int (nI (5))]) (st := []) C (post := _) (t) (by omega) hst rfl (ct_X5_isNumber hw (t := t) hX (A := 0) (B := 5) (by decide) H1 G2) kX5_97 (by decide) (by decide) rfl rfl (Nat.le_of_ble_eq_true rfl) (D (7, .invokevirtual 97, 3) (mg 5 rfl)) rfl (fun v9 H7 G8 hv9 => ?_)
  obtain ⟨⟨y10, rfl, hy10⟩, rfl, rfl⟩ := hv9
  show X k w _ 10 [some (.ref (wA w (t))), none] [.int (y10)] H1 G2
  refine X_if_ne (tgt := 15) C (D (10, .ifCond .ne 5, 3) (mg 6 rfl)) (by decide) (fun q11 => ?_) (fun q11 => ?_)
  · skip
    obtain ⟨v12, hlv12, huv12, ev12⟩ := hy10 q11
    refine X_aload_n C 0 (D (15, .aload_n 0, 1) (mg 9 rfl)) rfl rfl ?_
    refine X_get (v := .int (H1 (t) 6)) C (t) 6 (by omega) hst rfl rfl (by decide) inX5 fX5_55 rfl (D (16, .getfield 55, 3) (mg 10 rfl)) rfl ?_
    refine X_ti (y := nI (v12)) (ev12) ?_
    refine X_istore_n (ls' := [some (.ref (wA w (t))), some (.int (nI (v12)))]) C 1 (D (19, .istore_n 1, 1) (mg 11 rfl)) rfl (Nat.le_of_ble_eq_true rfl) rfl ?_
    refine X_aload_n C 0 (D (20, .aload_n 0, 1) (mg 12 rfl)) rfl rfl ?_
    refine X_cV (As := []) (st := []) C (post := _) (t) (by omega) hst rfl (ct_X5_advance hw (t := t) (n := n) hX hn (p := p5) (by omega) H1 G2 (((f4 _ _ (by omega))).trans hb) (ep5)) kX5_26 (by decide) (by decide) rfl rfl (Nat.le_of_ble_eq_true rfl) (D (21, .invokevirtual 26, 3) (mg 13 rfl)) rfl (fun v15 H13 G14 hv15 => ?_)
    obtain ⟨rfl, f16, p17, s18, hlp17, hup17, ep17, es18⟩ := hv15
    show X k w _ 24 [some (.ref (wA w (t))), some (.int (nI (v12)))] [] H13 G14
    refine X_aload_n C 0 (D (24, .aload_n 0, 1) (mg 14 rfl)) rfl rfl ?_
    refine X_iconst (v := nI (0)) C (D (25, .iconst 0, 1) (mg 15 rfl)) (by decide) ?_
    refine X_bipush (v := nI (24)) C (D (26, .bipush 24, 2) (mg 16 rfl)) (by decide) ?_
    refine X_cV (As := [.int (nI (0)), .int (nI (24))]) (st := []) C (post := _) (t) (by omega) hst rfl (ct_X5_isNumber hw (t := t) hX (A := 0) (B := 24) (by decide) H13 G14) kX5_97 (by decide) (by decide) rfl rfl (Nat.le_of_ble_eq_true rfl) (D (28, .invokevirtual 97, 3) (mg 17 rfl)) rfl (fun v21 H19 G20 hv21 => ?_)
    obtain ⟨⟨y22, rfl, hy22⟩, rfl, rfl⟩ := hv21
    show X k w _ 31 [some (.ref (wA w (t))), some (.int (nI (v12)))] [.int (y22)] H13 G14
    refine X_if_ne (tgt := 36) C (D (31, .ifCond .ne 5, 3) (mg 18 rfl)) (by decide) (fun q23 => ?_) (fun q23 => ?_)
    · skip
      obtain ⟨v24, hlv24, huv24, ev24⟩ := hy22 q23
      refine X_aload_n C 0 (D (36, .aload_n 0, 1) (mg 21 rfl)) rfl rfl ?_
      refine X_get (v := .ref (wA w (t + 2))) C (t) 1 (by omega) hst rfl rfl (by decide) inX5 fX5_18 rfl (D (37, .getfield 18, 3) (mg 22 rfl)) rfl ?_
      refine X_iload_n C 1 (D (40, .iload_n 1, 1) (mg 23 rfl)) rfl rfl ?_
      refine X_aload_n C 0 (D (41, .aload_n 0, 1) (mg 24 rfl)) rfl rfl ?_
      refine X_get (v := .int (H13 (t) 6)) C (t) 6 (by omega) hst rfl rfl (by decide) inX5 fX5_55 rfl (D (42, .getfield 55, 3) (mg 25 rfl)) rfl ?_
      refine X_ti (y := nI (v24)) (ev24) ?_
      refine X_cV (As := [.int (nI (v12)), .int (nI (v24))]) (st := []) C (post := _) (t + 2) (by omega) hN2.2.1 rfl (ct_X1_begin hw (n := t + 2) hN2 (nI (v12)) (nI (v24)) H13 G14) kX5_101 (by decide) (by decide) rfl rfl (Nat.le_of_ble_eq_true rfl) (D (45, .invokevirtual 101, 3) (mg 26 rfl)) rfl (fun v27 H25 G26 hv27 => ?_)
      obtain ⟨rfl, rfl, rfl⟩ := hv27
      show X k w _ 48 [some (.ref (wA w (t))), some (.int (nI (v12)))] [] (cbH H13 (t + 2) (nI (v12)) (nI (v24))) G14
      refine X_aload_n C 0 (D (48, .aload_n 0, 1) (mg 27 rfl)) rfl rfl ?_
      refine X_cV (As := []) (st := []) C (post := _) (t) (by omega) hst rfl (ct_X5_advance hw (t := t) (n := n) hX hn (p := p17) (by omega) (cbH H13 (t + 2) (nI (v12)) (nI (v24))) G14 (((((cbH_ne _ _ _ _ (by omega))).trans (f16 _ _ (by omega))).trans (f4 _ _ (by omega))).trans hb) (((cbH_ne _ _ _ _ (by omega))).trans ep17)) kX5_26 (by decide) (by decide) rfl rfl (Nat.le_of_ble_eq_true rfl) (D (49, .invokevirtual 26, 3) (mg 28 rfl)) rfl (fun v30 H28 G29 hv30 => ?_)
      obtain ⟨rfl, f31, p32, s33, hlp32, hup32, ep32, es33⟩ := hv30
      show X k w _ 52 [some (.ref (wA w (t))), some (.int (nI (v12)))] [] H28 G29
      refine X_iconst (v := nI (1)) C (D (52, .iconst 1, 1) (mg 29 rfl)) (by decide) ?_
      exact X_zret C (D (53, .ireturn, 1) (mg 30 rfl)) rfl ⟨⟨_, rfl⟩, ⟨fun q i z1 z2 => by rw [f31 _ _ (by omega), cbH_ne _ _ _ _ (by omega), f16 _ _ (by omega), f4 _ _ (by omega)], ⟨p32, s33, by omega, by omega, (ep32), (es33)⟩, ⟨v24, by omega, (((f31 _ _ (by omega))).trans (cbH_at _ _ _ _))⟩⟩⟩
    · skip
      refine X_iconst (v := nI (0)) C (D (34, .iconst 0, 1) (mg 19 rfl)) (by decide) ?_
      exact X_zret C (D (35, .ireturn, 1) (mg 20 rfl)) rfl ⟨⟨_, rfl⟩, ⟨fun q i z1 z2 => by rw [f16 _ _ (by omega), f4 _ _ (by omega)], ⟨p17, s18, by omega, by omega, (ep17), (es18)⟩, ⟨c0, by omega, ((((f16 _ _ (by omega))).trans (f4 _ _ (by omega))).trans hat)⟩⟩⟩
  · skip
    refine X_iconst (v := nI (0)) C (D (13, .iconst 0, 1) (mg 7 rfl)) (by decide) ?_
    exact X_zret C (D (14, .ireturn, 1) (mg 8 rfl)) rfl ⟨⟨_, rfl⟩, ⟨fun q i z1 z2 => by rw [f4 _ _ (by omega)], ⟨p5, s6, by omega, by omega, (ep5), (es6)⟩, ⟨c0, by omega, (((f4 _ _ (by omega))).trans hat)⟩⟩⟩
set_option maxHeartbeats 4000000 in
set_option maxRecDepth 100000 in
theorem ct_X5_takesStony {l : Launch} {w : Kw} (hw : wOk w) {t n : Nat} (hX : shX w t) (hn : n ≤ 150) (h : xI) (g : xJ) (hb : h t 2 = nI n) (hI : tI h t n) : Ct l w yX5_takesStony cX5_takesStony 2 (some .boolean) 3 60 [.ref (wA w (t))] h g (pQ (tW t n h)) := by
  refine Ct_of (ls := [some (.ref (wA w (t))), none]) (by decide) hw (Nat.le_of_ble_eq_true rfl) rfl (fun k hkl C => ?_)
  have C : Cx k w cX5_takesStony RX5 2 (some .boolean) 3 60 := C
  have D := dtX5_takesStony
  subst hkl
  have hX0 := hX
  obtain ⟨htn, hst, hs1, hN2⟩ := hX
  have hX := hX0
  obtain ⟨⟨p, s0, hsp, hp, ha, he⟩, ⟨c0, hc0, hat⟩⟩ := hI
  refine X_aload_n C 0 (D (0, .aload_n 0, 1) (mg 0 rfl)) rfl rfl ?_
  refine X_cV (As := []) (st := []) C (post := _) (t) (by omega) hst rfl (ct_X5_advance hw (t := t) (n := n) hX hn (p := p) (by omega) h g (hb) (ha)) kX5_26 (by decide) (by decide) rfl rfl (Nat.le_of_ble_eq_true rfl) (D (1, .invokevirtual 26, 3) (mg 1 rfl)) rfl (fun v3 H1 G2 hv3 => ?_)
  obtain ⟨rfl, f4, p5, s6, hlp5, hup5, ep5, es6⟩ := hv3
  show X k w _ 4 [some (.ref (wA w (t))), none] [] H1 G2
  refine X_aload_n C 0 (D (4, .aload_n 0, 1) (mg 2 rfl)) rfl rfl ?_
  refine X_iconst (v := nI (0)) C (D (5, .iconst 0, 1) (mg 3 rfl)) (by decide) ?_
  refine X_bipush (v := nI (24)) C (D (6, .bipush 24, 2) (mg 4 rfl)) (by decide) ?_
  refine X_cV (As := [.int (nI (0)), .int (nI (24))]) (st := []) C (post := _) (t) (by omega) hst rfl (ct_X5_isNumber hw (t := t) hX (A := 0) (B := 24) (by decide) H1 G2) kX5_97 (by decide) (by decide) rfl rfl (Nat.le_of_ble_eq_true rfl) (D (8, .invokevirtual 97, 3) (mg 5 rfl)) rfl (fun v9 H7 G8 hv9 => ?_)
  obtain ⟨⟨y10, rfl, hy10⟩, rfl, rfl⟩ := hv9
  show X k w _ 11 [some (.ref (wA w (t))), none] [.int (y10)] H1 G2
  refine X_if_ne (tgt := 16) C (D (11, .ifCond .ne 5, 3) (mg 6 rfl)) (by decide) (fun q11 => ?_) (fun q11 => ?_)
  · skip
    obtain ⟨v12, hlv12, huv12, ev12⟩ := hy10 q11
    refine X_aload_n C 0 (D (16, .aload_n 0, 1) (mg 9 rfl)) rfl rfl ?_
    refine X_get (v := .int (H1 (t) 6)) C (t) 6 (by omega) hst rfl rfl (by decide) inX5 fX5_55 rfl (D (17, .getfield 55, 3) (mg 10 rfl)) rfl ?_
    refine X_ti (y := nI (v12)) (ev12) ?_
    refine X_istore_n (ls' := [some (.ref (wA w (t))), some (.int (nI (v12)))]) C 1 (D (20, .istore_n 1, 1) (mg 11 rfl)) rfl (Nat.le_of_ble_eq_true rfl) rfl ?_
    refine X_aload_n C 0 (D (21, .aload_n 0, 1) (mg 12 rfl)) rfl rfl ?_
    refine X_cV (As := []) (st := []) C (post := _) (t) (by omega) hst rfl (ct_X5_advance hw (t := t) (n := n) hX hn (p := p5) (by omega) H1 G2 (((f4 _ _ (by omega))).trans hb) (ep5)) kX5_26 (by decide) (by decide) rfl rfl (Nat.le_of_ble_eq_true rfl) (D (22, .invokevirtual 26, 3) (mg 13 rfl)) rfl (fun v15 H13 G14 hv15 => ?_)
    obtain ⟨rfl, f16, p17, s18, hlp17, hup17, ep17, es18⟩ := hv15
    show X k w _ 25 [some (.ref (wA w (t))), some (.int (nI (v12)))] [] H13 G14
    refine X_aload_n C 0 (D (25, .aload_n 0, 1) (mg 14 rfl)) rfl rfl ?_
    refine X_iconst (v := nI (0)) C (D (26, .iconst 0, 1) (mg 15 rfl)) (by decide) ?_
    refine X_iconst (v := nI (4)) C (D (27, .iconst 4, 1) (mg 16 rfl)) (by decide) ?_
    refine X_cV (As := [.int (nI (0)), .int (nI (4))]) (st := []) C (post := _) (t) (by omega) hst rfl (ct_X5_isNumber hw (t := t) hX (A := 0) (B := 4) (by decide) H13 G14) kX5_97 (by decide) (by decide) rfl rfl (Nat.le_of_ble_eq_true rfl) (D (28, .invokevirtual 97, 3) (mg 17 rfl)) rfl (fun v21 H19 G20 hv21 => ?_)
    obtain ⟨⟨y22, rfl, hy22⟩, rfl, rfl⟩ := hv21
    show X k w _ 31 [some (.ref (wA w (t))), some (.int (nI (v12)))] [.int (y22)] H13 G14
    refine X_if_ne (tgt := 36) C (D (31, .ifCond .ne 5, 3) (mg 18 rfl)) (by decide) (fun q23 => ?_) (fun q23 => ?_)
    · skip
      obtain ⟨v24, hlv24, huv24, ev24⟩ := hy22 q23
      refine X_aload_n C 0 (D (36, .aload_n 0, 1) (mg 21 rfl)) rfl rfl ?_
      refine X_get (v := .ref (wA w (t + 2))) C (t) 1 (by omega) hst rfl rfl (by decide) inX5 fX5_18 rfl (D (37, .getfield 18, 3) (mg 22 rfl)) rfl ?_
      refine X_get (v := .ref (wA w (t + 3))) C (t + 2) 0 (by omega) hN2.2.1 rfl rfl (by decide) inX1 fX5_105 rfl (D (40, .getfield 105, 3) (mg 23 rfl)) rfl ?_
      refine X_iload_n C 1 (D (43, .iload_n 1, 1) (mg 24 rfl)) rfl rfl ?_
      refine X_aload_n C 0 (D (44, .aload_n 0, 1) (mg 25 rfl)) rfl rfl ?_
      refine X_get (v := .int (H13 (t) 6)) C (t) 6 (by omega) hst rfl rfl (by decide) inX5 fX5_55 rfl (D (45, .getfield 55, 3) (mg 26 rfl)) rfl ?_
      refine X_ti (y := nI (v24)) (ev24) ?_
      refine X_iast (j := v12) C (t + 3) (by omega) hN2.2.2.1 (vp_in_nI (by omega) (by omega)) (D (48, .iastore, 1) (mg 27 rfl)) (nI_clamp (by omega)) ?_
      refine X_aload_n C 0 (D (49, .aload_n 0, 1) (mg 28 rfl)) rfl rfl ?_
      refine X_cV (As := []) (st := []) C (post := _) (t) (by omega) hst rfl (ct_X5_advance hw (t := t) (n := n) hX hn (p := p17) (by omega) (u2 H13 (t + 3) (v12) (nI (v24))) G14 (((((u2_p _ _ _ _ (by omega))).trans (f16 _ _ (by omega))).trans (f4 _ _ (by omega))).trans hb) (((u2_p _ _ _ _ (by omega))).trans ep17)) kX5_26 (by decide) (by decide) rfl rfl (Nat.le_of_ble_eq_true rfl) (D (50, .invokevirtual 26, 3) (mg 29 rfl)) rfl (fun v27 H25 G26 hv27 => ?_)
      obtain ⟨rfl, f28, p29, s30, hlp29, hup29, ep29, es30⟩ := hv27
      show X k w _ 53 [some (.ref (wA w (t))), some (.int (nI (v12)))] [] H25 G26
      refine X_iconst (v := nI (1)) C (D (53, .iconst 1, 1) (mg 30 rfl)) (by decide) ?_
      exact X_zret C (D (54, .ireturn, 1) (mg 31 rfl)) rfl ⟨⟨_, rfl⟩, ⟨fun q i z1 z2 => by rw [f28 _ _ (by omega), u2_ne _ _ _ _ (by omega), f16 _ _ (by omega), f4 _ _ (by omega)], ⟨p29, s30, by omega, by omega, (ep29), (es30)⟩, ⟨c0, by omega, ((((((f28 _ _ (by omega))).trans (u2_p _ _ _ _ (by omega))).trans (f16 _ _ (by omega))).trans (f4 _ _ (by omega))).trans hat)⟩⟩⟩
    · skip
      refine X_iconst (v := nI (0)) C (D (34, .iconst 0, 1) (mg 19 rfl)) (by decide) ?_
      exact X_zret C (D (35, .ireturn, 1) (mg 20 rfl)) rfl ⟨⟨_, rfl⟩, ⟨fun q i z1 z2 => by rw [f16 _ _ (by omega), f4 _ _ (by omega)], ⟨p17, s18, by omega, by omega, (ep17), (es18)⟩, ⟨c0, by omega, ((((f16 _ _ (by omega))).trans (f4 _ _ (by omega))).trans hat)⟩⟩⟩
  · skip
    refine X_iconst (v := nI (0)) C (D (14, .iconst 0, 1) (mg 7 rfl)) (by decide) ?_
    exact X_zret C (D (15, .ireturn, 1) (mg 8 rfl)) rfl ⟨⟨_, rfl⟩, ⟨fun q i z1 z2 => by rw [f4 _ _ (by omega)], ⟨p5, s6, by omega, by omega, (ep5), (es6)⟩, ⟨c0, by omega, (((f4 _ _ (by omega))).trans hat)⟩⟩⟩
set_option maxHeartbeats 4000000 in
set_option maxRecDepth 100000 in
theorem ct_X5_takesSay {l : Launch} {w : Kw} (hw : wOk w) {t n : Nat} (hX : shX w t) (hn : n ≤ 150) (h : xI) (g : xJ) (hb : h t 2 = nI n) (hI : tI h t n) : Ct l w yX5_takesSay cX5_takesSay 2 (some .boolean) 3 60 [.ref (wA w (t))] h g (pQ (tW t n h)) := by
  refine Ct_of (ls := [some (.ref (wA w (t))), none]) (by decide) hw (Nat.le_of_ble_eq_true rfl) rfl (fun k hkl C => ?_)
  have C : Cx k w cX5_takesSay RX5 2 (some .boolean) 3 60 := C
  have D := dtX5_takesSay
  subst hkl
  have hX0 := hX
  obtain ⟨htn, hst, hs1, hN2⟩ := hX
  have hX := hX0
  obtain ⟨⟨p, s0, hsp, hp, ha, he⟩, ⟨c0, hc0, hat⟩⟩ := hI
  refine X_aload_n C 0 (D (0, .aload_n 0, 1) (mg 0 rfl)) rfl rfl ?_
  refine X_cV (As := []) (st := []) C (post := _) (t) (by omega) hst rfl (ct_X5_advance hw (t := t) (n := n) hX hn (p := p) (by omega) h g (hb) (ha)) kX5_26 (by decide) (by decide) rfl rfl (Nat.le_of_ble_eq_true rfl) (D (1, .invokevirtual 26, 3) (mg 1 rfl)) rfl (fun v3 H1 G2 hv3 => ?_)
  obtain ⟨rfl, f4, p5, s6, hlp5, hup5, ep5, es6⟩ := hv3
  show X k w _ 4 [some (.ref (wA w (t))), none] [] H1 G2
  refine X_aload_n C 0 (D (4, .aload_n 0, 1) (mg 2 rfl)) rfl rfl ?_
  refine X_iconst (v := nI (0)) C (D (5, .iconst 0, 1) (mg 3 rfl)) (by decide) ?_
  refine X_bipush (v := nI (24)) C (D (6, .bipush 24, 2) (mg 4 rfl)) (by decide) ?_
  refine X_cV (As := [.int (nI (0)), .int (nI (24))]) (st := []) C (post := _) (t) (by omega) hst rfl (ct_X5_isNumber hw (t := t) hX (A := 0) (B := 24) (by decide) H1 G2) kX5_97 (by decide) (by decide) rfl rfl (Nat.le_of_ble_eq_true rfl) (D (8, .invokevirtual 97, 3) (mg 5 rfl)) rfl (fun v9 H7 G8 hv9 => ?_)
  obtain ⟨⟨y10, rfl, hy10⟩, rfl, rfl⟩ := hv9
  show X k w _ 11 [some (.ref (wA w (t))), none] [.int (y10)] H1 G2
  refine X_if_eq (tgt := 28) C (D (11, .ifCond .eq 17, 3) (mg 6 rfl)) (by decide) (fun q11 => ?_) (fun q11 => ?_)
  · skip
    refine X_iconst (v := nI (0)) C (D (28, .iconst 0, 1) (mg 13 rfl)) (by decide) ?_
    exact X_zret C (D (29, .ireturn, 1) (mg 14 rfl)) rfl ⟨⟨_, rfl⟩, ⟨fun q i z1 z2 => by rw [f4 _ _ (by omega)], ⟨p5, s6, by omega, by omega, (ep5), (es6)⟩, ⟨c0, by omega, (((f4 _ _ (by omega))).trans hat)⟩⟩⟩
  · skip
    obtain ⟨v12, hlv12, huv12, ev12⟩ := hy10 q11
    refine X_aload_n C 0 (D (14, .aload_n 0, 1) (mg 7 rfl)) rfl rfl ?_
    refine X_get (v := .ref (wA w (t + 2))) C (t) 1 (by omega) hst rfl rfl (by decide) inX5 fX5_18 rfl (D (15, .getfield 18, 3) (mg 8 rfl)) rfl ?_
    refine X_aload_n C 0 (D (18, .aload_n 0, 1) (mg 9 rfl)) rfl rfl ?_
    refine X_get (v := .int (H1 (t) 6)) C (t) 6 (by omega) hst rfl rfl (by decide) inX5 fX5_55 rfl (D (19, .getfield 55, 3) (mg 10 rfl)) rfl ?_
    refine X_ti (y := nI (v12)) (ev12) ?_
    refine X_cV (As := [.int (nI (v12))]) (st := []) C (post := _) (t + 2) (by omega) hN2.2.1 rfl (ct_X1_liesIn hw (n := t + 2) hN2 (j := v12) (by omega) H1 G2) kX5_107 (by decide) (by decide) rfl rfl (Nat.le_of_ble_eq_true rfl) (D (22, .invokevirtual 107, 3) (mg 11 rfl)) rfl (fun v15 H13 G14 hv15 => ?_)
    obtain ⟨rfl, rfl, rfl⟩ := hv15
    show X k w _ 25 [some (.ref (wA w (t))), none] [.int (if ¬ H1 (t + 4) (v12) = (-1 : Int32) then 1 else 0)] H1 G2
    refine X_if_eq (tgt := 30) C (D (25, .ifCond .eq 5, 3) (mg 12 rfl)) (by decide) (fun q16 => ?_) (fun q16 => ?_)
    · skip
      have q16 : ¬ (¬ H1 (t + 4) (v12) = (-1 : Int32)) := bz0.mp q16
      refine X_aload_n C 0 (D (30, .aload_n 0, 1) (mg 15 rfl)) rfl rfl ?_
      refine X_get (v := .int (H1 (t) 6)) C (t) 6 (by omega) hst rfl rfl (by decide) inX5 fX5_55 rfl (D (31, .getfield 55, 3) (mg 16 rfl)) rfl ?_
      refine X_ti (y := nI (v12)) (ev12) ?_
      refine X_istore_n (ls' := [some (.ref (wA w (t))), some (.int (nI (v12)))]) C 1 (D (34, .istore_n 1, 1) (mg 17 rfl)) rfl (Nat.le_of_ble_eq_true rfl) rfl ?_
      refine X_aload_n C 0 (D (35, .aload_n 0, 1) (mg 18 rfl)) rfl rfl ?_
      refine X_cV (As := []) (st := []) C (post := _) (t) (by omega) hst rfl (ct_X5_advance hw (t := t) (n := n) hX hn (p := p5) (by omega) H1 G2 (((f4 _ _ (by omega))).trans hb) (ep5)) kX5_26 (by decide) (by decide) rfl rfl (Nat.le_of_ble_eq_true rfl) (D (36, .invokevirtual 26, 3) (mg 19 rfl)) rfl (fun v19 H17 G18 hv19 => ?_)
      obtain ⟨rfl, f20, p21, s22, hlp21, hup21, ep21, es22⟩ := hv19
      show X k w _ 39 [some (.ref (wA w (t))), some (.int (nI (v12)))] [] H17 G18
      refine X_aload_n C 0 (D (39, .aload_n 0, 1) (mg 20 rfl)) rfl rfl ?_
      refine X_iconst (v := nI (0)) C (D (40, .iconst 0, 1) (mg 21 rfl)) (by decide) ?_
      refine X_iconst (v := nI (5)) C (D (41, .iconst 5, 1) (mg 22 rfl)) (by decide) ?_
      refine X_cV (As := [.int (nI (0)), .int (nI (5))]) (st := []) C (post := _) (t) (by omega) hst rfl (ct_X5_isNumber hw (t := t) hX (A := 0) (B := 5) (by decide) H17 G18) kX5_97 (by decide) (by decide) rfl rfl (Nat.le_of_ble_eq_true rfl) (D (42, .invokevirtual 97, 3) (mg 23 rfl)) rfl (fun v25 H23 G24 hv25 => ?_)
      obtain ⟨⟨y26, rfl, hy26⟩, rfl, rfl⟩ := hv25
      show X k w _ 45 [some (.ref (wA w (t))), some (.int (nI (v12)))] [.int (y26)] H17 G18
      refine X_if_ne (tgt := 50) C (D (45, .ifCond .ne 5, 3) (mg 24 rfl)) (by decide) (fun q27 => ?_) (fun q27 => ?_)
      · skip
        obtain ⟨v28, hlv28, huv28, ev28⟩ := hy26 q27
        refine X_aload_n C 0 (D (50, .aload_n 0, 1) (mg 27 rfl)) rfl rfl ?_
        refine X_get (v := .ref (wA w (t + 2))) C (t) 1 (by omega) hst rfl rfl (by decide) inX5 fX5_18 rfl (D (51, .getfield 18, 3) (mg 28 rfl)) rfl ?_
        refine X_iload_n C 1 (D (54, .iload_n 1, 1) (mg 29 rfl)) rfl rfl ?_
        refine X_aload_n C 0 (D (55, .aload_n 0, 1) (mg 30 rfl)) rfl rfl ?_
        refine X_get (v := .int (H17 (t) 6)) C (t) 6 (by omega) hst rfl rfl (by decide) inX5 fX5_55 rfl (D (56, .getfield 55, 3) (mg 31 rfl)) rfl ?_
        refine X_ti (y := nI (v28)) (ev28) ?_
        refine X_cV (As := [.int (nI (v12)), .int (nI (v28))]) (st := []) C (post := _) (t + 2) (by omega) hN2.2.1 rfl (ct_X1_put hw (n := t + 2) hN2 (j := v12) (by omega) (nI (v28)) H17 G18) kX5_110 (by decide) (by decide) rfl rfl (Nat.le_of_ble_eq_true rfl) (D (59, .invokevirtual 110, 3) (mg 32 rfl)) rfl (fun v31 H29 G30 hv31 => ?_)
        obtain ⟨rfl, rfl, rfl⟩ := hv31
        show X k w _ 62 [some (.ref (wA w (t))), some (.int (nI (v12)))] [] (u2 H17 (t + 4) (v12) (nI 1000 * (nI (v28)))) G18
        refine X_aload_n C 0 (D (62, .aload_n 0, 1) (mg 33 rfl)) rfl rfl ?_
        refine X_cV (As := []) (st := []) C (post := _) (t) (by omega) hst rfl (ct_X5_advance hw (t := t) (n := n) hX hn (p := p21) (by omega) (u2 H17 (t + 4) (v12) (nI 1000 * (nI (v28)))) G18 (((((u2_p _ _ _ _ (by omega))).trans (f20 _ _ (by omega))).trans (f4 _ _ (by omega))).trans hb) (((u2_p _ _ _ _ (by omega))).trans ep21)) kX5_26 (by decide) (by decide) rfl rfl (Nat.le_of_ble_eq_true rfl) (D (63, .invokevirtual 26, 3) (mg 34 rfl)) rfl (fun v34 H32 G33 hv34 => ?_)
        obtain ⟨rfl, f35, p36, s37, hlp36, hup36, ep36, es37⟩ := hv34
        show X k w _ 66 [some (.ref (wA w (t))), some (.int (nI (v12)))] [] H32 G33
        refine X_iconst (v := nI (1)) C (D (66, .iconst 1, 1) (mg 35 rfl)) (by decide) ?_
        exact X_zret C (D (67, .ireturn, 1) (mg 36 rfl)) rfl ⟨⟨_, rfl⟩, ⟨fun q i z1 z2 => by rw [f35 _ _ (by omega), u2_ne _ _ _ _ (by omega), f20 _ _ (by omega), f4 _ _ (by omega)], ⟨p36, s37, by omega, by omega, (ep36), (es37)⟩, ⟨c0, by omega, ((((((f35 _ _ (by omega))).trans (u2_p _ _ _ _ (by omega))).trans (f20 _ _ (by omega))).trans (f4 _ _ (by omega))).trans hat)⟩⟩⟩
      · skip
        refine X_iconst (v := nI (0)) C (D (48, .iconst 0, 1) (mg 25 rfl)) (by decide) ?_
        exact X_zret C (D (49, .ireturn, 1) (mg 26 rfl)) rfl ⟨⟨_, rfl⟩, ⟨fun q i z1 z2 => by rw [f20 _ _ (by omega), f4 _ _ (by omega)], ⟨p21, s22, by omega, by omega, (ep21), (es22)⟩, ⟨c0, by omega, ((((f20 _ _ (by omega))).trans (f4 _ _ (by omega))).trans hat)⟩⟩⟩
    · skip
      have q16 : (¬ H1 (t + 4) (v12) = (-1 : Int32)) := bz1.mp q16
      refine X_iconst (v := nI (0)) C (D (28, .iconst 0, 1) (mg 13 rfl)) (by decide) ?_
      exact X_zret C (D (29, .ireturn, 1) (mg 14 rfl)) rfl ⟨⟨_, rfl⟩, ⟨fun q i z1 z2 => by rw [f4 _ _ (by omega)], ⟨p5, s6, by omega, by omega, (ep5), (es6)⟩, ⟨c0, by omega, (((f4 _ _ (by omega))).trans hat)⟩⟩⟩
set_option maxHeartbeats 4000000 in
set_option maxRecDepth 100000 in
theorem ct_X5_takesDrag {l : Launch} {w : Kw} (hw : wOk w) {t n : Nat} (hX : shX w t) (hn : n ≤ 150) (h : xI) (g : xJ) (hb : h t 2 = nI n) (hI : tI h t n) : Ct l w yX5_takesDrag cX5_takesDrag 3 (some .boolean) 3 71 [.ref (wA w (t))] h g (pQ (tW t n h)) := by
  refine Ct_of (ls := [some (.ref (wA w (t))), none, none]) (by decide) hw (Nat.le_of_ble_eq_true rfl) rfl (fun k hkl C => ?_)
  have C : Cx k w cX5_takesDrag RX5 3 (some .boolean) 3 71 := C
  have D := dtX5_takesDrag
  subst hkl
  have hX0 := hX
  obtain ⟨htn, hst, hs1, hN2⟩ := hX
  have hX := hX0
  obtain ⟨⟨p, s0, hsp, hp, ha, he⟩, ⟨c0, hc0, hat⟩⟩ := hI
  refine X_iconst (v := nI (0)) C (D (0, .iconst 0, 1) (mg 0 rfl)) (by decide) ?_
  refine X_istore_n (ls' := [some (.ref (wA w (t))), some (.int (nI (0))), none]) C 1 (D (1, .istore_n 1, 1) (mg 1 rfl)) rfl (Nat.le_of_ble_eq_true rfl) rfl ?_
  refine X_aload_n C 0 (D (2, .aload_n 0, 1) (mg 2 rfl)) rfl rfl ?_
  refine X_cV (As := []) (st := []) C (post := _) (t) (by omega) hst rfl (ct_X5_advance hw (t := t) (n := n) hX hn (p := p) (by omega) h g (hb) (ha)) kX5_26 (by decide) (by decide) rfl rfl (Nat.le_of_ble_eq_true rfl) (D (3, .invokevirtual 26, 3) (mg 3 rfl)) rfl (fun v3 H1 G2 hv3 => ?_)
  obtain ⟨rfl, f4, p5, s6, hlp5, hup5, ep5, es6⟩ := hv3
  show X k w _ 6 [some (.ref (wA w (t))), some (.int (nI (0))), none] [] H1 G2
  have lp6 : ∀ (nn6 : Nat) (j : Nat) (hp6 : xI) (gp6 : xJ), (j ≤ 9) → (tW t n h hp6) → 10 - j ≤ nn6 → X k w (Zq k w (pQ (tW t n h))) 6 [some (.ref (wA w (t))), some (.int (nI (j))), none] [] hp6 gp6 := by
    intro nn6
    induction nn6 with
    | zero => intro j hp6 gp6 hc6_0 hc6_1 hz; exact absurd hz (by omega)
    | succ nn6 ih6 =>
      intro j hp6 gp6 hc6_0 hc6_1 hz6
      obtain ⟨⟨p7, s8, hlp7, hup7, ep7, es8⟩, ⟨c9, hc9, ec9⟩⟩ := (hc6_1).2
      refine X_iload_n C 1 (D (6, .iload_n 1, 1) (mg 4 rfl)) rfl rfl ?_
      refine X_bipush (v := nI (9)) C (D (7, .bipush 9, 2) (mg 5 rfl)) (by decide) ?_
      refine X_icmp_ge (tgt := 61) C (D (9, .if_icmp .ge 52, 3) (mg 6 rfl)) (by decide) (fun q10 => ?_) (fun q10 => ?_)
      · skip
        have q10 : (j) ≥ (9) := by have z := (nI_leI (a := (9)) (b := (j)) (by omega) (by omega)).mp q10; omega
        refine X_iload_n C 1 (D (61, .iload_n 1, 1) (mg 32 rfl)) rfl rfl ?_
        refine X_if_le (tgt := 69) C (D (62, .ifCond .le 7, 3) (mg 33 rfl)) (by decide) (fun q11 => ?_) (fun q11 => ?_)
        · skip
          have q11 : (j) ≤ (0) := by have z := (nI_leI (a := (j)) (b := (0)) (by omega) (by omega)).mp q11; omega
          refine X_iconst (v := nI (0)) C (D (69, .iconst 0, 1) (mg 36 rfl)) (by decide) ?_
          exact X_zret C (D (70, .ireturn, 1) (mg 37 rfl)) rfl ⟨⟨_, rfl⟩, hc6_1⟩
        · skip
          have q11 : (j) > (0) := by have z : ¬ ((j) ≤ (0)) := fun u => q11 ((nI_leI (a := (j)) (b := (0)) (by omega) (by omega)).mpr u); omega
          refine X_iconst (v := nI (1)) C (D (65, .iconst 1, 1) (mg 34 rfl)) (by decide) ?_
          refine X_goto (tgt := 70) C (D (66, .goto 4, 3) (mg 35 rfl)) (by decide) ?_
          exact X_zret C (D (70, .ireturn, 1) (mg 37 rfl)) rfl ⟨⟨_, rfl⟩, hc6_1⟩
      · skip
        have q10 : (j) < (9) := by have z : ¬ ((9) ≤ (j)) := fun u => q10 ((nI_leI (a := (9)) (b := (j)) (by omega) (by omega)).mpr u); omega
        refine X_aload_n C 0 (D (12, .aload_n 0, 1) (mg 7 rfl)) rfl rfl ?_
        refine X_iconst (v := nI (0)) C (D (13, .iconst 0, 1) (mg 8 rfl)) (by decide) ?_
        refine X_iconst (v := nI (3)) C (D (14, .iconst 3, 1) (mg 9 rfl)) (by decide) ?_
        refine X_cV (As := [.int (nI (0)), .int (nI (3))]) (st := []) C (post := _) (t) (by omega) hst rfl (ct_X5_isNumber hw (t := t) hX (A := 0) (B := 3) (by decide) hp6 gp6) kX5_97 (by decide) (by decide) rfl rfl (Nat.le_of_ble_eq_true rfl) (D (15, .invokevirtual 97, 3) (mg 10 rfl)) rfl (fun v14 H12 G13 hv14 => ?_)
        obtain ⟨⟨y15, rfl, hy15⟩, rfl, rfl⟩ := hv14
        show X k w _ 18 [some (.ref (wA w (t))), some (.int (nI (j))), none] [.int (y15)] hp6 gp6
        refine X_if_eq (tgt := 61) C (D (18, .ifCond .eq 43, 3) (mg 11 rfl)) (by decide) (fun q16 => ?_) (fun q16 => ?_)
        · skip
          refine X_iload_n C 1 (D (61, .iload_n 1, 1) (mg 32 rfl)) rfl rfl ?_
          refine X_if_le (tgt := 69) C (D (62, .ifCond .le 7, 3) (mg 33 rfl)) (by decide) (fun q17 => ?_) (fun q17 => ?_)
          · skip
            have q17 : (j) ≤ (0) := by have z := (nI_leI (a := (j)) (b := (0)) (by omega) (by omega)).mp q17; omega
            refine X_iconst (v := nI (0)) C (D (69, .iconst 0, 1) (mg 36 rfl)) (by decide) ?_
            exact X_zret C (D (70, .ireturn, 1) (mg 37 rfl)) rfl ⟨⟨_, rfl⟩, hc6_1⟩
          · skip
            have q17 : (j) > (0) := by have z : ¬ ((j) ≤ (0)) := fun u => q17 ((nI_leI (a := (j)) (b := (0)) (by omega) (by omega)).mpr u); omega
            refine X_iconst (v := nI (1)) C (D (65, .iconst 1, 1) (mg 34 rfl)) (by decide) ?_
            refine X_goto (tgt := 70) C (D (66, .goto 4, 3) (mg 35 rfl)) (by decide) ?_
            exact X_zret C (D (70, .ireturn, 1) (mg 37 rfl)) rfl ⟨⟨_, rfl⟩, hc6_1⟩
        · skip
          obtain ⟨v18, hlv18, huv18, ev18⟩ := hy15 q16
          refine X_aload_n C 0 (D (21, .aload_n 0, 1) (mg 12 rfl)) rfl rfl ?_
          refine X_get (v := .ref (wA w (t + 2))) C (t) 1 (by omega) hst rfl rfl (by decide) inX5 fX5_18 rfl (D (22, .getfield 18, 3) (mg 13 rfl)) rfl ?_
          refine X_get (v := .int (hp6 (t + 2) 3)) C (t + 2) 3 (by omega) hN2.2.1 rfl rfl (by decide) inX1 fX5_113 rfl (D (25, .getfield 113, 3) (mg 14 rfl)) rfl ?_
          refine X_ti (y := nI (c9)) (ec9) ?_
          refine X_aload_n C 0 (D (28, .aload_n 0, 1) (mg 15 rfl)) rfl rfl ?_
          refine X_get (v := .int (hp6 (t) 6)) C (t) 6 (by omega) hst rfl rfl (by decide) inX5 fX5_55 rfl (D (29, .getfield 55, 3) (mg 16 rfl)) rfl ?_
          refine X_ti (y := nI (v18)) (ev18) ?_
          refine X_cN (As := [.int (nI (c9)), .int (nI (v18))]) (st := []) C (post := _) (ct_X7_beside hw (j := c9) (by omega) (nI (v18)) hp6 gp6) kX5_116 (by decide) (by decide) rfl rfl (Nat.le_of_ble_eq_true rfl) (D (32, .invokestatic 116, 3) (mg 17 rfl)) rfl (fun v21 H19 G20 hv21 => ?_)
          obtain ⟨⟨y22, rfl, hy22, ey22⟩, rfl, rfl⟩ := hv21
          show X k w _ 35 [some (.ref (wA w (t))), some (.int (nI (j))), none] [.int (y22)] hp6 gp6
          refine X_istore_n (ls' := [some (.ref (wA w (t))), some (.int (nI (j))), some (.int (y22))]) C 2 (D (35, .istore_n 2, 1) (mg 18 rfl)) rfl (Nat.le_of_ble_eq_true rfl) rfl ?_
          refine X_iload_n C 2 (D (36, .iload_n 2, 1) (mg 19 rfl)) rfl rfl ?_
          refine X_iconst (v := (-1 : Int32)) C (D (37, .iconst (-1), 1) (mg 20 rfl)) (by decide) ?_
          refine X_icmp_ne (tgt := 43) C (D (38, .if_icmp .ne 5, 3) (mg 21 rfl)) (by decide) (fun q23 => ?_) (fun q23 => ?_)
          · skip
            obtain ⟨c24, hc24, rfl⟩ := hy22.resolve_left q23
            refine X_aload_n C 0 (D (43, .aload_n 0, 1) (mg 24 rfl)) rfl rfl ?_
            refine X_get (v := .ref (wA w (t + 2))) C (t) 1 (by omega) hst rfl rfl (by decide) inX5 fX5_18 rfl (D (44, .getfield 18, 3) (mg 25 rfl)) rfl ?_
            refine X_iload_n C 2 (D (47, .iload_n 2, 1) (mg 26 rfl)) rfl rfl ?_
            refine X_cV (As := [.int (nI (c24))]) (st := []) C (post := _) (t + 2) (by omega) hN2.2.1 rfl (ct_X1_stepTo hw (n := t + 2) hN2 (j := c24) (by omega) hp6 gp6) kX5_120 (by decide) (by decide) rfl rfl (Nat.le_of_ble_eq_true rfl) (D (48, .invokevirtual 120, 3) (mg 27 rfl)) rfl (fun v27 H25 G26 hv27 => ?_)
            obtain ⟨rfl, rfl, rfl⟩ := hv27
            show X k w _ 51 [some (.ref (wA w (t))), some (.int (nI (j))), some (.int (nI (c24)))] [] (csH hp6 (t + 2) (c24)) gp6
            refine X_aload_n C 0 (D (51, .aload_n 0, 1) (mg 28 rfl)) rfl rfl ?_
            refine X_cV (As := []) (st := []) C (post := _) (t) (by omega) hst rfl (ct_X5_advance hw (t := t) (n := n) hX hn (p := p7) (by omega) (csH hp6 (t + 2) (c24)) gp6 (((csH_ne _ _ _ (by omega))).trans (((hc6_1).1 _ _ (by omega) (by omega)).trans hb)) (((csH_ne _ _ _ (by omega))).trans ep7)) kX5_26 (by decide) (by decide) rfl rfl (Nat.le_of_ble_eq_true rfl) (D (52, .invokevirtual 26, 3) (mg 29 rfl)) rfl (fun v30 H28 G29 hv30 => ?_)
            obtain ⟨rfl, f31, p32, s33, hlp32, hup32, ep32, es33⟩ := hv30
            show X k w _ 55 [some (.ref (wA w (t))), some (.int (nI (j))), some (.int (nI (c24)))] [] H28 G29
            refine X_iinc (v := nI (j + 1)) (ls' := [some (.ref (wA w (t))), some (.int (nI (j + 1))), some (.int (nI (c24)))]) C (D (55, .iinc 1 1, 3) (mg 30 rfl)) rfl (nI_add (j) 1) rfl ?_
            refine X_goto (tgt := 6) C (D (58, .goto (-52), 3) (mg 31 rfl)) (by decide) ?_
            refine X_los (ls' := [some (.ref (wA w (t))), some (.int (nI (j + 1))), none]) (by simp [lsub]) ?_
            refine X_eq (ls' := [some (.ref (wA w (t))), some (.int (nI (j + 1))), none]) (st' := []) (h' := H28) (g' := G29) rfl rfl rfl rfl ?_
            exact ih6 (j + 1) (H28) (G29) (by omega) ⟨fun q i z1 z2 => by rw [f31 _ _ (by omega), csH_ne _ _ _ (by omega)]; exact (hc6_1).1 q i z1 z2, ⟨p32, s33, by omega, by omega, (ep32), (es33)⟩, ⟨c24, by omega, (((f31 _ _ (by omega))).trans (csH_at _ _ _))⟩⟩ (by omega)
          · skip
            subst q23
            refine X_iconst (v := nI (0)) C (D (41, .iconst 0, 1) (mg 22 rfl)) (by decide) ?_
            exact X_zret C (D (42, .ireturn, 1) (mg 23 rfl)) rfl ⟨⟨_, rfl⟩, hc6_1⟩
  refine X_eq (ls' := [some (.ref (wA w (t))), some (.int (nI (0))), none]) (st' := []) (h' := H1) (g' := G2) rfl rfl rfl rfl ?_
  exact lp6 _ (0) (H1) (G2) (by omega) ⟨fun q i z1 z2 => by rw [f4 _ _ (by omega)], ⟨p5, s6, by omega, by omega, (ep5), (es6)⟩, ⟨c0, by omega, (((f4 _ _ (by omega))).trans hat)⟩⟩ (Nat.le_refl _)
set_option maxHeartbeats 4000000 in
set_option maxRecDepth 100000 in
theorem ct_X5_takesWeeks {l : Launch} {w : Kw} (hw : wOk w) {t n : Nat} (hX : shX w t) (hn : n ≤ 150) (h : xI) (g : xJ) (hb : h t 2 = nI n) (hI : tI h t n) : Ct l w yX5_takesWeeks cX5_takesWeeks 3 (some .boolean) 3 63 [.ref (wA w (t))] h g (pQ (tW t n h)) := by
  refine Ct_of (ls := [some (.ref (wA w (t))), none, none]) (by decide) hw (Nat.le_of_ble_eq_true rfl) rfl (fun k hkl C => ?_)
  have C : Cx k w cX5_takesWeeks RX5 3 (some .boolean) 3 63 := C
  have D := dtX5_takesWeeks
  subst hkl
  have hX0 := hX
  obtain ⟨htn, hst, hs1, hN2⟩ := hX
  have hX := hX0
  obtain ⟨⟨p, s0, hsp, hp, ha, he⟩, ⟨c0, hc0, hat⟩⟩ := hI
  refine X_aload_n C 0 (D (0, .aload_n 0, 1) (mg 0 rfl)) rfl rfl ?_
  refine X_cV (As := []) (st := []) C (post := _) (t) (by omega) hst rfl (ct_X5_advance hw (t := t) (n := n) hX hn (p := p) (by omega) h g (hb) (ha)) kX5_26 (by decide) (by decide) rfl rfl (Nat.le_of_ble_eq_true rfl) (D (1, .invokevirtual 26, 3) (mg 1 rfl)) rfl (fun v3 H1 G2 hv3 => ?_)
  obtain ⟨rfl, f4, p5, s6, hlp5, hup5, ep5, es6⟩ := hv3
  show X k w _ 4 [some (.ref (wA w (t))), none, none] [] H1 G2
  refine X_aload_n C 0 (D (4, .aload_n 0, 1) (mg 2 rfl)) rfl rfl ?_
  refine X_iconst (v := nI (1)) C (D (5, .iconst 1, 1) (mg 3 rfl)) (by decide) ?_
  refine X_bipush (v := nI (99)) C (D (6, .bipush 99, 2) (mg 4 rfl)) (by decide) ?_
  refine X_cV (As := [.int (nI (1)), .int (nI (99))]) (st := []) C (post := _) (t) (by omega) hst rfl (ct_X5_isNumber hw (t := t) hX (A := 1) (B := 99) (by decide) H1 G2) kX5_97 (by decide) (by decide) rfl rfl (Nat.le_of_ble_eq_true rfl) (D (8, .invokevirtual 97, 3) (mg 5 rfl)) rfl (fun v9 H7 G8 hv9 => ?_)
  obtain ⟨⟨y10, rfl, hy10⟩, rfl, rfl⟩ := hv9
  show X k w _ 11 [some (.ref (wA w (t))), none, none] [.int (y10)] H1 G2
  refine X_if_ne (tgt := 16) C (D (11, .ifCond .ne 5, 3) (mg 6 rfl)) (by decide) (fun q11 => ?_) (fun q11 => ?_)
  · skip
    obtain ⟨v12, hlv12, huv12, ev12⟩ := hy10 q11
    refine X_aload_n C 0 (D (16, .aload_n 0, 1) (mg 9 rfl)) rfl rfl ?_
    refine X_get (v := .int (H1 (t) 6)) C (t) 6 (by omega) hst rfl rfl (by decide) inX5 fX5_55 rfl (D (17, .getfield 55, 3) (mg 10 rfl)) rfl ?_
    refine X_ti (y := nI (v12)) (ev12) ?_
    refine X_istore_n (ls' := [some (.ref (wA w (t))), some (.int (nI (v12))), none]) C 1 (D (20, .istore_n 1, 1) (mg 11 rfl)) rfl (Nat.le_of_ble_eq_true rfl) rfl ?_
    refine X_iconst (v := nI (0)) C (D (21, .iconst 0, 1) (mg 12 rfl)) (by decide) ?_
    refine X_istore_n (ls' := [some (.ref (wA w (t))), some (.int (nI (v12))), some (.int (nI (0)))]) C 2 (D (22, .istore_n 2, 1) (mg 13 rfl)) rfl (Nat.le_of_ble_eq_true rfl) rfl ?_
    have lp23 : ∀ (nn23 : Nat) (j : Nat) (hp23 : xI) (gp23 : xJ), (j ≤ 99) → (tW t n h hp23) → 100 - j ≤ nn23 → X k w (Zq k w (pQ (tW t n h))) 23 [some (.ref (wA w (t))), some (.int (nI (v12))), some (.int (nI (j)))] [] hp23 gp23 := by
      intro nn23
      induction nn23 with
      | zero => intro j hp23 gp23 hc23_0 hc23_1 hz; exact absurd hz (by omega)
      | succ nn23 ih23 =>
        intro j hp23 gp23 hc23_0 hc23_1 hz23
        obtain ⟨⟨p13, s14, hlp13, hup13, ep13, es14⟩, ⟨c15, hc15, ec15⟩⟩ := (hc23_1).2
        refine X_iload_n C 2 (D (23, .iload_n 2, 1) (mg 14 rfl)) rfl rfl ?_
        refine X_iload_n C 1 (D (24, .iload_n 1, 1) (mg 15 rfl)) rfl rfl ?_
        refine X_icmp_ge (tgt := 41) C (D (25, .if_icmp .ge 16, 3) (mg 16 rfl)) (by decide) (fun q16 => ?_) (fun q16 => ?_)
        · skip
          have q16 : (j) ≥ (v12) := by have z := (nI_leI (a := (v12)) (b := (j)) (by omega) (by omega)).mp q16; omega
          refine X_aload_n C 0 (D (41, .aload_n 0, 1) (mg 22 rfl)) rfl rfl ?_
          refine X_cV (As := []) (st := []) C (post := _) (t) (by omega) hst rfl (ct_X5_advance hw (t := t) (n := n) hX hn (p := p13) (by omega) hp23 gp23 ((((hc23_1).1 _ _ (by omega) (by omega)).trans hb)) (ep13)) kX5_26 (by decide) (by decide) rfl rfl (Nat.le_of_ble_eq_true rfl) (D (42, .invokevirtual 26, 3) (mg 23 rfl)) rfl (fun v19 H17 G18 hv19 => ?_)
          obtain ⟨rfl, f20, p21, s22, hlp21, hup21, ep21, es22⟩ := hv19
          show X k w _ 45 [some (.ref (wA w (t))), some (.int (nI (v12))), some (.int (nI (j)))] [] H17 G18
          refine X_iconst (v := nI (1)) C (D (45, .iconst 1, 1) (mg 24 rfl)) (by decide) ?_
          exact X_zret C (D (46, .ireturn, 1) (mg 25 rfl)) rfl ⟨⟨_, rfl⟩, ⟨fun q i z1 z2 => by rw [f20 _ _ (by omega)]; exact (hc23_1).1 q i z1 z2, ⟨p21, s22, by omega, by omega, (ep21), (es22)⟩, ⟨c15, by omega, (((f20 _ _ (by omega))).trans ec15)⟩⟩⟩
        · skip
          have q16 : (j) < (v12) := by have z : ¬ ((v12) ≤ (j)) := fun u => q16 ((nI_leI (a := (v12)) (b := (j)) (by omega) (by omega)).mpr u); omega
          refine X_aload_n C 0 (D (28, .aload_n 0, 1) (mg 17 rfl)) rfl rfl ?_
          refine X_get (v := .ref (wA w (t + 2))) C (t) 1 (by omega) hst rfl rfl (by decide) inX5 fX5_18 rfl (D (29, .getfield 18, 3) (mg 18 rfl)) rfl ?_
          refine X_cV (As := []) (st := []) C (post := _) (t + 2) (by omega) hN2.2.1 rfl (ct_X1_passWeek hw (n := t + 2) hN2  hp23 gp23) kX5_124 (by decide) (by decide) rfl rfl (Nat.le_of_ble_eq_true rfl) (D (32, .invokevirtual 124, 3) (mg 19 rfl)) rfl (fun v25 H23 G24 hv25 => ?_)
          obtain ⟨rfl, rfl, rfl⟩ := hv25
          show X k w _ 35 [some (.ref (wA w (t))), some (.int (nI (v12))), some (.int (nI (j)))] [] (cwH hp23 (t + 2)) gp23
          refine X_iinc (v := nI (j + 1)) (ls' := [some (.ref (wA w (t))), some (.int (nI (v12))), some (.int (nI (j + 1)))]) C (D (35, .iinc 2 1, 3) (mg 20 rfl)) rfl (nI_add (j) 1) rfl ?_
          refine X_goto (tgt := 23) C (D (38, .goto (-15), 3) (mg 21 rfl)) (by decide) ?_
          refine X_eq (ls' := [some (.ref (wA w (t))), some (.int (nI (v12))), some (.int (nI (j + 1)))]) (st' := []) (h' := (cwH hp23 (t + 2))) (g' := gp23) rfl rfl rfl rfl ?_
          exact ih23 (j + 1) ((cwH hp23 (t + 2))) (gp23) (by omega) ⟨fun q i z1 z2 => by rw [cwH_ne _ _ (by omega)]; exact (hc23_1).1 q i z1 z2, ⟨p13, s14, by omega, by omega, (((cwH_ne _ _ (by omega))).trans ep13), (((cwH_ne _ _ (by omega))).trans es14)⟩, ⟨c15, by omega, (((cwH_ne _ _ (by omega))).trans ec15)⟩⟩ (by omega)
    refine X_eq (ls' := [some (.ref (wA w (t))), some (.int (nI (v12))), some (.int (nI (0)))]) (st' := []) (h' := H1) (g' := G2) rfl rfl rfl rfl ?_
    exact lp23 _ (0) (H1) (G2) (by omega) ⟨fun q i z1 z2 => by rw [f4 _ _ (by omega)], ⟨p5, s6, by omega, by omega, (ep5), (es6)⟩, ⟨c0, by omega, (((f4 _ _ (by omega))).trans hat)⟩⟩ (Nat.le_refl _)
  · skip
    refine X_iconst (v := nI (0)) C (D (14, .iconst 0, 1) (mg 7 rfl)) (by decide) ?_
    exact X_zret C (D (15, .ireturn, 1) (mg 8 rfl)) rfl ⟨⟨_, rfl⟩, ⟨fun q i z1 z2 => by rw [f4 _ _ (by omega)], ⟨p5, s6, by omega, by omega, (ep5), (es6)⟩, ⟨c0, by omega, (((f4 _ _ (by omega))).trans hat)⟩⟩⟩
set_option maxHeartbeats 4000000 in
set_option maxRecDepth 100000 in
theorem ct_X5_takesItem {l : Launch} {w : Kw} (hw : wOk w) {t n : Nat} (hX : shX w t) (hn : n ≤ 150) {aK aV : Nat → Nat} {zr : Value} (hs : sOk w aK aV zr) (hz : zr = .null ∨ ∃ ra, zr = .ref ra) (a1 : Int32) (h : xI) (g : xJ) (hb : h t 2 = nI n) (hI : tI h t n) : Ct l w yX5_takesItem cX5_takesItem 3 (some .boolean) 5 107 [.ref (wA w (t)), .int (a1)] h g (pQ (tW t n h)) := by
  refine Ct_of (ls := [some (.ref (wA w (t))), some (.int (a1)), none]) (by decide) hw (Nat.le_of_ble_eq_true rfl) rfl (fun k hkl C => ?_)
  have C : Cx k w cX5_takesItem RX5 3 (some .boolean) 5 107 := C
  have D := dtX5_takesItem
  subst hkl
  have hX0 := hX
  obtain ⟨htn, hst, hs1, hN2⟩ := hX
  have hX := hX0
  obtain ⟨⟨p, s0, hsp, hp, ha, he⟩, ⟨c0, hc0, hat⟩⟩ := hI
  refine X_iconst (v := nI (0)) C (D (0, .iconst 0, 1) (mg 0 rfl)) (by decide) ?_
  refine X_istore_n (ls' := [some (.ref (wA w (t))), some (.int (a1)), some (.int (nI (0)))]) C 2 (D (1, .istore_n 2, 1) (mg 1 rfl)) rfl (Nat.le_of_ble_eq_true rfl) rfl ?_
  refine X_aload_n C 0 (D (2, .aload_n 0, 1) (mg 2 rfl)) rfl rfl ?_
  refine X_get (v := .int (h (t) 5)) C (t) 5 (by omega) hst rfl rfl (by decide) inX5 fX5_29 rfl (D (3, .getfield 29, 3) (mg 3 rfl)) rfl ?_
  refine X_if_ne (tgt := 19) C (D (6, .ifCond .ne 13, 3) (mg 4 rfl)) (by decide) (fun q1 => ?_) (fun q1 => ?_)
  · skip
    refine X_iconst (v := nI (0)) C (D (19, .iconst 0, 1) (mg 10 rfl)) (by decide) ?_
    exact X_zret C (D (20, .ireturn, 1) (mg 11 rfl)) rfl ⟨⟨_, rfl⟩, ⟨fun q i z1 z2 => by rfl, ⟨p, s0, by omega, by omega, (ha), (he)⟩, ⟨c0, by omega, (hat)⟩⟩⟩
  · skip
    refine X_iload_n C 1 (D (9, .iload_n 1, 1) (mg 5 rfl)) rfl rfl ?_
    refine X_aload_n C 0 (D (10, .aload_n 0, 1) (mg 6 rfl)) rfl rfl ?_
    refine X_ldcS C (fun U e => (hs U e).2.1 0 (by decide)) (D (11, .ldc 58, 2) (mg 7 rfl)) ?_
    refine X_cV (As := [.ref (aK (0))]) (st := [.int (a1)]) C (post := _) (t) (by omega) hst rfl (ct_X5_isWord hw (t := t) (n := n) hX hn hs hz (p := p) (s0 := s0) (by omega) (by omega) (i := 0) (by decide) h g (hb) (ha) (he)) kX5_59 (by decide) (by decide) rfl rfl (Nat.le_of_ble_eq_true rfl) (D (13, .invokevirtual 59, 3) (mg 8 rfl)) rfl (fun v4 H2 G3 hv4 => ?_)
    obtain ⟨⟨y5, rfl⟩, rfl, rfl⟩ := hv4
    show X k w _ 16 [some (.ref (wA w (t))), some (.int (a1)), some (.int (nI (0)))] [.int (y5), .int (a1)] h g
    refine X_icmp_eq (tgt := 21) C (D (16, .if_icmp .eq 5, 3) (mg 9 rfl)) (by decide) (fun q6 => ?_) (fun q6 => ?_)
    · skip
      refine X_iload_n C 1 (D (21, .iload_n 1, 1) (mg 12 rfl)) rfl rfl ?_
      refine X_if_eq (tgt := 33) C (D (22, .ifCond .eq 11, 3) (mg 13 rfl)) (by decide) (fun q7 => ?_) (fun q7 => ?_)
      · skip
        refine X_aload_n C 0 (D (33, .aload_n 0, 1) (mg 18 rfl)) rfl rfl ?_
        refine X_ldcS C (fun U e => (hs U e).2.1 1 (by decide)) (D (34, .ldc 67, 2) (mg 19 rfl)) ?_
        refine X_cV (As := [.ref (aK (1))]) (st := []) C (post := _) (t) (by omega) hst rfl (ct_X5_isWord hw (t := t) (n := n) hX hn hs hz (p := p) (s0 := s0) (by omega) (by omega) (i := 1) (by decide) h g (hb) (ha) (he)) kX5_59 (by decide) (by decide) rfl rfl (Nat.le_of_ble_eq_true rfl) (D (36, .invokevirtual 59, 3) (mg 20 rfl)) rfl (fun v10 H8 G9 hv10 => ?_)
        obtain ⟨⟨y11, rfl⟩, rfl, rfl⟩ := hv10
        show X k w _ 39 [some (.ref (wA w (t))), some (.int (a1)), some (.int (nI (0)))] [.int (y11)] h g
        refine X_if_eq (tgt := 50) C (D (39, .ifCond .eq 11, 3) (mg 21 rfl)) (by decide) (fun q12 => ?_) (fun q12 => ?_)
        · skip
          refine X_aload_n C 0 (D (50, .aload_n 0, 1) (mg 26 rfl)) rfl rfl ?_
          refine X_ldcS C (fun U e => (hs U e).2.1 2 (by decide)) (D (51, .ldc 72, 2) (mg 27 rfl)) ?_
          refine X_cV (As := [.ref (aK (2))]) (st := []) C (post := _) (t) (by omega) hst rfl (ct_X5_isWord hw (t := t) (n := n) hX hn hs hz (p := p) (s0 := s0) (by omega) (by omega) (i := 2) (by decide) h g (hb) (ha) (he)) kX5_59 (by decide) (by decide) rfl rfl (Nat.le_of_ble_eq_true rfl) (D (53, .invokevirtual 59, 3) (mg 28 rfl)) rfl (fun v15 H13 G14 hv15 => ?_)
          obtain ⟨⟨y16, rfl⟩, rfl, rfl⟩ := hv15
          show X k w _ 56 [some (.ref (wA w (t))), some (.int (a1)), some (.int (nI (0)))] [.int (y16)] h g
          refine X_if_eq (tgt := 67) C (D (56, .ifCond .eq 11, 3) (mg 29 rfl)) (by decide) (fun q17 => ?_) (fun q17 => ?_)
          · skip
            refine X_aload_n C 0 (D (67, .aload_n 0, 1) (mg 34 rfl)) rfl rfl ?_
            refine X_ldcS C (fun U e => (hs U e).2.1 3 (by decide)) (D (68, .ldc 77, 2) (mg 35 rfl)) ?_
            refine X_cV (As := [.ref (aK (3))]) (st := []) C (post := _) (t) (by omega) hst rfl (ct_X5_isWord hw (t := t) (n := n) hX hn hs hz (p := p) (s0 := s0) (by omega) (by omega) (i := 3) (by decide) h g (hb) (ha) (he)) kX5_59 (by decide) (by decide) rfl rfl (Nat.le_of_ble_eq_true rfl) (D (70, .invokevirtual 59, 3) (mg 36 rfl)) rfl (fun v20 H18 G19 hv20 => ?_)
            obtain ⟨⟨y21, rfl⟩, rfl, rfl⟩ := hv20
            show X k w _ 73 [some (.ref (wA w (t))), some (.int (a1)), some (.int (nI (0)))] [.int (y21)] h g
            refine X_if_eq (tgt := 84) C (D (73, .ifCond .eq 11, 3) (mg 37 rfl)) (by decide) (fun q22 => ?_) (fun q22 => ?_)
            · skip
              refine X_aload_n C 0 (D (84, .aload_n 0, 1) (mg 42 rfl)) rfl rfl ?_
              refine X_ldcS C (fun U e => (hs U e).2.1 4 (by decide)) (D (85, .ldc 82, 2) (mg 43 rfl)) ?_
              refine X_cV (As := [.ref (aK (4))]) (st := []) C (post := _) (t) (by omega) hst rfl (ct_X5_isWord hw (t := t) (n := n) hX hn hs hz (p := p) (s0 := s0) (by omega) (by omega) (i := 4) (by decide) h g (hb) (ha) (he)) kX5_59 (by decide) (by decide) rfl rfl (Nat.le_of_ble_eq_true rfl) (D (87, .invokevirtual 59, 3) (mg 44 rfl)) rfl (fun v25 H23 G24 hv25 => ?_)
              obtain ⟨⟨y26, rfl⟩, rfl, rfl⟩ := hv25
              show X k w _ 90 [some (.ref (wA w (t))), some (.int (a1)), some (.int (nI (0)))] [.int (y26)] h g
              refine X_if_eq (tgt := 98) C (D (90, .ifCond .eq 8, 3) (mg 45 rfl)) (by decide) (fun q27 => ?_) (fun q27 => ?_)
              · skip
                refine X_iload_n C 2 (D (98, .iload_n 2, 1) (mg 49 rfl)) rfl rfl ?_
                refine X_if_eq (tgt := 110) C (D (99, .ifCond .eq 11, 3) (mg 50 rfl)) (by decide) (fun q28 => ?_) (fun q28 => ?_)
                · skip
                  refine X_iconst (v := nI (0)) C (D (110, .iconst 0, 1) (mg 55 rfl)) (by decide) ?_
                  exact X_zret C (D (111, .ireturn, 1) (mg 56 rfl)) rfl ⟨⟨_, rfl⟩, ⟨fun q i z1 z2 => by rfl, ⟨p, s0, by omega, by omega, (ha), (he)⟩, ⟨c0, by omega, (hat)⟩⟩⟩
                · skip
                  exact absurd q28 (by decide)
              · skip
                refine X_aload_n C 0 (D (93, .aload_n 0, 1) (mg 46 rfl)) rfl rfl ?_
                refine X_cV (As := []) (st := []) C (post := _) (t) (by omega) hst rfl (ct_X5_takesWeeks hw (t := t) (n := n) hX hn  h g (hb) ⟨⟨p, s0, by omega, by omega, (ha), (he)⟩, ⟨c0, by omega, (hat)⟩⟩) kX5_84 (by decide) (by decide) rfl rfl (Nat.le_of_ble_eq_true rfl) (D (94, .invokevirtual 84, 3) (mg 47 rfl)) rfl (fun v31 H29 G30 hv31 => ?_)
                obtain ⟨⟨y32, rfl⟩, w33⟩ := hv31
                have w33 : tW t n h H29 := w33
                obtain ⟨⟨p34, s35, hlp34, hup34, ep34, es35⟩, ⟨c36, hc36, ec36⟩⟩ := (w33).2
                show X k w _ 97 [some (.ref (wA w (t))), some (.int (a1)), some (.int (nI (0)))] [.int (y32)] H29 G30
                refine X_istore_n (ls' := [some (.ref (wA w (t))), some (.int (a1)), some (.int (y32))]) C 2 (D (97, .istore_n 2, 1) (mg 48 rfl)) rfl (Nat.le_of_ble_eq_true rfl) rfl ?_
                refine X_iload_n C 2 (D (98, .iload_n 2, 1) (mg 49 rfl)) rfl rfl ?_
                refine X_if_eq (tgt := 110) C (D (99, .ifCond .eq 11, 3) (mg 50 rfl)) (by decide) (fun q37 => ?_) (fun q37 => ?_)
                · skip
                  refine X_iconst (v := nI (0)) C (D (110, .iconst 0, 1) (mg 55 rfl)) (by decide) ?_
                  exact X_zret C (D (111, .ireturn, 1) (mg 56 rfl)) rfl ⟨⟨_, rfl⟩, w33⟩
                · skip
                  refine X_aload_n C 0 (D (102, .aload_n 0, 1) (mg 51 rfl)) rfl rfl ?_
                  refine X_get (v := .int (H29 (t) 5)) C (t) 5 (by omega) hst rfl rfl (by decide) inX5 fX5_29 rfl (D (103, .getfield 29, 3) (mg 52 rfl)) rfl ?_
                  refine X_iconst (v := nI (2)) C (D (106, .iconst 2, 1) (mg 53 rfl)) (by decide) ?_
                  refine X_icmp_eq (tgt := 112) C (D (107, .if_icmp .eq 5, 3) (mg 54 rfl)) (by decide) (fun q38 => ?_) (fun q38 => ?_)
                  · skip
                    refine X_aload_n C 0 (D (112, .aload_n 0, 1) (mg 57 rfl)) rfl rfl ?_
                    refine X_cV (As := []) (st := []) C (post := _) (t) (by omega) hst rfl (ct_X5_advance hw (t := t) (n := n) hX hn (p := p34) (by omega) H29 G30 ((((w33).1 _ _ (by omega) (by omega)).trans hb)) (ep34)) kX5_26 (by decide) (by decide) rfl rfl (Nat.le_of_ble_eq_true rfl) (D (113, .invokevirtual 26, 3) (mg 58 rfl)) rfl (fun v41 H39 G40 hv41 => ?_)
                    obtain ⟨rfl, f42, p43, s44, hlp43, hup43, ep43, es44⟩ := hv41
                    show X k w _ 116 [some (.ref (wA w (t))), some (.int (a1)), some (.int (y32))] [] H39 G40
                    refine X_iconst (v := nI (1)) C (D (116, .iconst 1, 1) (mg 59 rfl)) (by decide) ?_
                    exact X_zret C (D (117, .ireturn, 1) (mg 60 rfl)) rfl ⟨⟨_, rfl⟩, ⟨fun q i z1 z2 => by rw [f42 _ _ (by omega)]; exact (w33).1 q i z1 z2, ⟨p43, s44, by omega, by omega, (ep43), (es44)⟩, ⟨c36, by omega, (((f42 _ _ (by omega))).trans ec36)⟩⟩⟩
                  · skip
                    refine X_iconst (v := nI (0)) C (D (110, .iconst 0, 1) (mg 55 rfl)) (by decide) ?_
                    exact X_zret C (D (111, .ireturn, 1) (mg 56 rfl)) rfl ⟨⟨_, rfl⟩, w33⟩
            · skip
              refine X_aload_n C 0 (D (76, .aload_n 0, 1) (mg 38 rfl)) rfl rfl ?_
              refine X_cV (As := []) (st := []) C (post := _) (t) (by omega) hst rfl (ct_X5_takesDrag hw (t := t) (n := n) hX hn  h g (hb) ⟨⟨p, s0, by omega, by omega, (ha), (he)⟩, ⟨c0, by omega, (hat)⟩⟩) kX5_79 (by decide) (by decide) rfl rfl (Nat.le_of_ble_eq_true rfl) (D (77, .invokevirtual 79, 3) (mg 39 rfl)) rfl (fun v47 H45 G46 hv47 => ?_)
              obtain ⟨⟨y48, rfl⟩, w49⟩ := hv47
              have w49 : tW t n h H45 := w49
              obtain ⟨⟨p50, s51, hlp50, hup50, ep50, es51⟩, ⟨c52, hc52, ec52⟩⟩ := (w49).2
              show X k w _ 80 [some (.ref (wA w (t))), some (.int (a1)), some (.int (nI (0)))] [.int (y48)] H45 G46
              refine X_istore_n (ls' := [some (.ref (wA w (t))), some (.int (a1)), some (.int (y48))]) C 2 (D (80, .istore_n 2, 1) (mg 40 rfl)) rfl (Nat.le_of_ble_eq_true rfl) rfl ?_
              refine X_goto (tgt := 98) C (D (81, .goto 17, 3) (mg 41 rfl)) (by decide) ?_
              refine X_iload_n C 2 (D (98, .iload_n 2, 1) (mg 49 rfl)) rfl rfl ?_
              refine X_if_eq (tgt := 110) C (D (99, .ifCond .eq 11, 3) (mg 50 rfl)) (by decide) (fun q53 => ?_) (fun q53 => ?_)
              · skip
                refine X_iconst (v := nI (0)) C (D (110, .iconst 0, 1) (mg 55 rfl)) (by decide) ?_
                exact X_zret C (D (111, .ireturn, 1) (mg 56 rfl)) rfl ⟨⟨_, rfl⟩, w49⟩
              · skip
                refine X_aload_n C 0 (D (102, .aload_n 0, 1) (mg 51 rfl)) rfl rfl ?_
                refine X_get (v := .int (H45 (t) 5)) C (t) 5 (by omega) hst rfl rfl (by decide) inX5 fX5_29 rfl (D (103, .getfield 29, 3) (mg 52 rfl)) rfl ?_
                refine X_iconst (v := nI (2)) C (D (106, .iconst 2, 1) (mg 53 rfl)) (by decide) ?_
                refine X_icmp_eq (tgt := 112) C (D (107, .if_icmp .eq 5, 3) (mg 54 rfl)) (by decide) (fun q54 => ?_) (fun q54 => ?_)
                · skip
                  refine X_aload_n C 0 (D (112, .aload_n 0, 1) (mg 57 rfl)) rfl rfl ?_
                  refine X_cV (As := []) (st := []) C (post := _) (t) (by omega) hst rfl (ct_X5_advance hw (t := t) (n := n) hX hn (p := p50) (by omega) H45 G46 ((((w49).1 _ _ (by omega) (by omega)).trans hb)) (ep50)) kX5_26 (by decide) (by decide) rfl rfl (Nat.le_of_ble_eq_true rfl) (D (113, .invokevirtual 26, 3) (mg 58 rfl)) rfl (fun v57 H55 G56 hv57 => ?_)
                  obtain ⟨rfl, f58, p59, s60, hlp59, hup59, ep59, es60⟩ := hv57
                  show X k w _ 116 [some (.ref (wA w (t))), some (.int (a1)), some (.int (y48))] [] H55 G56
                  refine X_iconst (v := nI (1)) C (D (116, .iconst 1, 1) (mg 59 rfl)) (by decide) ?_
                  exact X_zret C (D (117, .ireturn, 1) (mg 60 rfl)) rfl ⟨⟨_, rfl⟩, ⟨fun q i z1 z2 => by rw [f58 _ _ (by omega)]; exact (w49).1 q i z1 z2, ⟨p59, s60, by omega, by omega, (ep59), (es60)⟩, ⟨c52, by omega, (((f58 _ _ (by omega))).trans ec52)⟩⟩⟩
                · skip
                  refine X_iconst (v := nI (0)) C (D (110, .iconst 0, 1) (mg 55 rfl)) (by decide) ?_
                  exact X_zret C (D (111, .ireturn, 1) (mg 56 rfl)) rfl ⟨⟨_, rfl⟩, w49⟩
          · skip
            refine X_aload_n C 0 (D (59, .aload_n 0, 1) (mg 30 rfl)) rfl rfl ?_
            refine X_cV (As := []) (st := []) C (post := _) (t) (by omega) hst rfl (ct_X5_takesSay hw (t := t) (n := n) hX hn  h g (hb) ⟨⟨p, s0, by omega, by omega, (ha), (he)⟩, ⟨c0, by omega, (hat)⟩⟩) kX5_74 (by decide) (by decide) rfl rfl (Nat.le_of_ble_eq_true rfl) (D (60, .invokevirtual 74, 3) (mg 31 rfl)) rfl (fun v63 H61 G62 hv63 => ?_)
            obtain ⟨⟨y64, rfl⟩, w65⟩ := hv63
            have w65 : tW t n h H61 := w65
            obtain ⟨⟨p66, s67, hlp66, hup66, ep66, es67⟩, ⟨c68, hc68, ec68⟩⟩ := (w65).2
            show X k w _ 63 [some (.ref (wA w (t))), some (.int (a1)), some (.int (nI (0)))] [.int (y64)] H61 G62
            refine X_istore_n (ls' := [some (.ref (wA w (t))), some (.int (a1)), some (.int (y64))]) C 2 (D (63, .istore_n 2, 1) (mg 32 rfl)) rfl (Nat.le_of_ble_eq_true rfl) rfl ?_
            refine X_goto (tgt := 98) C (D (64, .goto 34, 3) (mg 33 rfl)) (by decide) ?_
            refine X_iload_n C 2 (D (98, .iload_n 2, 1) (mg 49 rfl)) rfl rfl ?_
            refine X_if_eq (tgt := 110) C (D (99, .ifCond .eq 11, 3) (mg 50 rfl)) (by decide) (fun q69 => ?_) (fun q69 => ?_)
            · skip
              refine X_iconst (v := nI (0)) C (D (110, .iconst 0, 1) (mg 55 rfl)) (by decide) ?_
              exact X_zret C (D (111, .ireturn, 1) (mg 56 rfl)) rfl ⟨⟨_, rfl⟩, w65⟩
            · skip
              refine X_aload_n C 0 (D (102, .aload_n 0, 1) (mg 51 rfl)) rfl rfl ?_
              refine X_get (v := .int (H61 (t) 5)) C (t) 5 (by omega) hst rfl rfl (by decide) inX5 fX5_29 rfl (D (103, .getfield 29, 3) (mg 52 rfl)) rfl ?_
              refine X_iconst (v := nI (2)) C (D (106, .iconst 2, 1) (mg 53 rfl)) (by decide) ?_
              refine X_icmp_eq (tgt := 112) C (D (107, .if_icmp .eq 5, 3) (mg 54 rfl)) (by decide) (fun q70 => ?_) (fun q70 => ?_)
              · skip
                refine X_aload_n C 0 (D (112, .aload_n 0, 1) (mg 57 rfl)) rfl rfl ?_
                refine X_cV (As := []) (st := []) C (post := _) (t) (by omega) hst rfl (ct_X5_advance hw (t := t) (n := n) hX hn (p := p66) (by omega) H61 G62 ((((w65).1 _ _ (by omega) (by omega)).trans hb)) (ep66)) kX5_26 (by decide) (by decide) rfl rfl (Nat.le_of_ble_eq_true rfl) (D (113, .invokevirtual 26, 3) (mg 58 rfl)) rfl (fun v73 H71 G72 hv73 => ?_)
                obtain ⟨rfl, f74, p75, s76, hlp75, hup75, ep75, es76⟩ := hv73
                show X k w _ 116 [some (.ref (wA w (t))), some (.int (a1)), some (.int (y64))] [] H71 G72
                refine X_iconst (v := nI (1)) C (D (116, .iconst 1, 1) (mg 59 rfl)) (by decide) ?_
                exact X_zret C (D (117, .ireturn, 1) (mg 60 rfl)) rfl ⟨⟨_, rfl⟩, ⟨fun q i z1 z2 => by rw [f74 _ _ (by omega)]; exact (w65).1 q i z1 z2, ⟨p75, s76, by omega, by omega, (ep75), (es76)⟩, ⟨c68, by omega, (((f74 _ _ (by omega))).trans ec68)⟩⟩⟩
              · skip
                refine X_iconst (v := nI (0)) C (D (110, .iconst 0, 1) (mg 55 rfl)) (by decide) ?_
                exact X_zret C (D (111, .ireturn, 1) (mg 56 rfl)) rfl ⟨⟨_, rfl⟩, w65⟩
        · skip
          refine X_aload_n C 0 (D (42, .aload_n 0, 1) (mg 22 rfl)) rfl rfl ?_
          refine X_cV (As := []) (st := []) C (post := _) (t) (by omega) hst rfl (ct_X5_takesStony hw (t := t) (n := n) hX hn  h g (hb) ⟨⟨p, s0, by omega, by omega, (ha), (he)⟩, ⟨c0, by omega, (hat)⟩⟩) kX5_69 (by decide) (by decide) rfl rfl (Nat.le_of_ble_eq_true rfl) (D (43, .invokevirtual 69, 3) (mg 23 rfl)) rfl (fun v79 H77 G78 hv79 => ?_)
          obtain ⟨⟨y80, rfl⟩, w81⟩ := hv79
          have w81 : tW t n h H77 := w81
          obtain ⟨⟨p82, s83, hlp82, hup82, ep82, es83⟩, ⟨c84, hc84, ec84⟩⟩ := (w81).2
          show X k w _ 46 [some (.ref (wA w (t))), some (.int (a1)), some (.int (nI (0)))] [.int (y80)] H77 G78
          refine X_istore_n (ls' := [some (.ref (wA w (t))), some (.int (a1)), some (.int (y80))]) C 2 (D (46, .istore_n 2, 1) (mg 24 rfl)) rfl (Nat.le_of_ble_eq_true rfl) rfl ?_
          refine X_goto (tgt := 98) C (D (47, .goto 51, 3) (mg 25 rfl)) (by decide) ?_
          refine X_iload_n C 2 (D (98, .iload_n 2, 1) (mg 49 rfl)) rfl rfl ?_
          refine X_if_eq (tgt := 110) C (D (99, .ifCond .eq 11, 3) (mg 50 rfl)) (by decide) (fun q85 => ?_) (fun q85 => ?_)
          · skip
            refine X_iconst (v := nI (0)) C (D (110, .iconst 0, 1) (mg 55 rfl)) (by decide) ?_
            exact X_zret C (D (111, .ireturn, 1) (mg 56 rfl)) rfl ⟨⟨_, rfl⟩, w81⟩
          · skip
            refine X_aload_n C 0 (D (102, .aload_n 0, 1) (mg 51 rfl)) rfl rfl ?_
            refine X_get (v := .int (H77 (t) 5)) C (t) 5 (by omega) hst rfl rfl (by decide) inX5 fX5_29 rfl (D (103, .getfield 29, 3) (mg 52 rfl)) rfl ?_
            refine X_iconst (v := nI (2)) C (D (106, .iconst 2, 1) (mg 53 rfl)) (by decide) ?_
            refine X_icmp_eq (tgt := 112) C (D (107, .if_icmp .eq 5, 3) (mg 54 rfl)) (by decide) (fun q86 => ?_) (fun q86 => ?_)
            · skip
              refine X_aload_n C 0 (D (112, .aload_n 0, 1) (mg 57 rfl)) rfl rfl ?_
              refine X_cV (As := []) (st := []) C (post := _) (t) (by omega) hst rfl (ct_X5_advance hw (t := t) (n := n) hX hn (p := p82) (by omega) H77 G78 ((((w81).1 _ _ (by omega) (by omega)).trans hb)) (ep82)) kX5_26 (by decide) (by decide) rfl rfl (Nat.le_of_ble_eq_true rfl) (D (113, .invokevirtual 26, 3) (mg 58 rfl)) rfl (fun v89 H87 G88 hv89 => ?_)
              obtain ⟨rfl, f90, p91, s92, hlp91, hup91, ep91, es92⟩ := hv89
              show X k w _ 116 [some (.ref (wA w (t))), some (.int (a1)), some (.int (y80))] [] H87 G88
              refine X_iconst (v := nI (1)) C (D (116, .iconst 1, 1) (mg 59 rfl)) (by decide) ?_
              exact X_zret C (D (117, .ireturn, 1) (mg 60 rfl)) rfl ⟨⟨_, rfl⟩, ⟨fun q i z1 z2 => by rw [f90 _ _ (by omega)]; exact (w81).1 q i z1 z2, ⟨p91, s92, by omega, by omega, (ep91), (es92)⟩, ⟨c84, by omega, (((f90 _ _ (by omega))).trans ec84)⟩⟩⟩
            · skip
              refine X_iconst (v := nI (0)) C (D (110, .iconst 0, 1) (mg 55 rfl)) (by decide) ?_
              exact X_zret C (D (111, .ireturn, 1) (mg 56 rfl)) rfl ⟨⟨_, rfl⟩, w81⟩
      · skip
        refine X_aload_n C 0 (D (25, .aload_n 0, 1) (mg 14 rfl)) rfl rfl ?_
        refine X_cV (As := []) (st := []) C (post := _) (t) (by omega) hst rfl (ct_X5_takesNave hw (t := t) (n := n) hX hn  h g (hb) ⟨⟨p, s0, by omega, by omega, (ha), (he)⟩, ⟨c0, by omega, (hat)⟩⟩) kX5_63 (by decide) (by decide) rfl rfl (Nat.le_of_ble_eq_true rfl) (D (26, .invokevirtual 63, 3) (mg 15 rfl)) rfl (fun v95 H93 G94 hv95 => ?_)
        obtain ⟨⟨y96, rfl⟩, w97⟩ := hv95
        have w97 : tW t n h H93 := w97
        obtain ⟨⟨p98, s99, hlp98, hup98, ep98, es99⟩, ⟨c100, hc100, ec100⟩⟩ := (w97).2
        show X k w _ 29 [some (.ref (wA w (t))), some (.int (a1)), some (.int (nI (0)))] [.int (y96)] H93 G94
        refine X_istore_n (ls' := [some (.ref (wA w (t))), some (.int (a1)), some (.int (y96))]) C 2 (D (29, .istore_n 2, 1) (mg 16 rfl)) rfl (Nat.le_of_ble_eq_true rfl) rfl ?_
        refine X_goto (tgt := 98) C (D (30, .goto 68, 3) (mg 17 rfl)) (by decide) ?_
        refine X_iload_n C 2 (D (98, .iload_n 2, 1) (mg 49 rfl)) rfl rfl ?_
        refine X_if_eq (tgt := 110) C (D (99, .ifCond .eq 11, 3) (mg 50 rfl)) (by decide) (fun q101 => ?_) (fun q101 => ?_)
        · skip
          refine X_iconst (v := nI (0)) C (D (110, .iconst 0, 1) (mg 55 rfl)) (by decide) ?_
          exact X_zret C (D (111, .ireturn, 1) (mg 56 rfl)) rfl ⟨⟨_, rfl⟩, w97⟩
        · skip
          refine X_aload_n C 0 (D (102, .aload_n 0, 1) (mg 51 rfl)) rfl rfl ?_
          refine X_get (v := .int (H93 (t) 5)) C (t) 5 (by omega) hst rfl rfl (by decide) inX5 fX5_29 rfl (D (103, .getfield 29, 3) (mg 52 rfl)) rfl ?_
          refine X_iconst (v := nI (2)) C (D (106, .iconst 2, 1) (mg 53 rfl)) (by decide) ?_
          refine X_icmp_eq (tgt := 112) C (D (107, .if_icmp .eq 5, 3) (mg 54 rfl)) (by decide) (fun q102 => ?_) (fun q102 => ?_)
          · skip
            refine X_aload_n C 0 (D (112, .aload_n 0, 1) (mg 57 rfl)) rfl rfl ?_
            refine X_cV (As := []) (st := []) C (post := _) (t) (by omega) hst rfl (ct_X5_advance hw (t := t) (n := n) hX hn (p := p98) (by omega) H93 G94 ((((w97).1 _ _ (by omega) (by omega)).trans hb)) (ep98)) kX5_26 (by decide) (by decide) rfl rfl (Nat.le_of_ble_eq_true rfl) (D (113, .invokevirtual 26, 3) (mg 58 rfl)) rfl (fun v105 H103 G104 hv105 => ?_)
            obtain ⟨rfl, f106, p107, s108, hlp107, hup107, ep107, es108⟩ := hv105
            show X k w _ 116 [some (.ref (wA w (t))), some (.int (a1)), some (.int (y96))] [] H103 G104
            refine X_iconst (v := nI (1)) C (D (116, .iconst 1, 1) (mg 59 rfl)) (by decide) ?_
            exact X_zret C (D (117, .ireturn, 1) (mg 60 rfl)) rfl ⟨⟨_, rfl⟩, ⟨fun q i z1 z2 => by rw [f106 _ _ (by omega)]; exact (w97).1 q i z1 z2, ⟨p107, s108, by omega, by omega, (ep107), (es108)⟩, ⟨c100, by omega, (((f106 _ _ (by omega))).trans ec100)⟩⟩⟩
          · skip
            refine X_iconst (v := nI (0)) C (D (110, .iconst 0, 1) (mg 55 rfl)) (by decide) ?_
            exact X_zret C (D (111, .ireturn, 1) (mg 56 rfl)) rfl ⟨⟨_, rfl⟩, w97⟩
    · skip
      refine X_iconst (v := nI (0)) C (D (19, .iconst 0, 1) (mg 10 rfl)) (by decide) ?_
      exact X_zret C (D (20, .ireturn, 1) (mg 11 rfl)) rfl ⟨⟨_, rfl⟩, ⟨fun q i z1 z2 => by rfl, ⟨p, s0, by omega, by omega, (ha), (he)⟩, ⟨c0, by omega, (hat)⟩⟩⟩
