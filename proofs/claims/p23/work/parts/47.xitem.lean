/-! PHASE 2, THE CLASS: numbers, words, ITEMs, exact -/
theorem cT_le {y : Nat} (h : y ≤ 4) : cT y ≤ 4 := by unfold cT; split <;> omega
theorem cT_0 {y : Nat} : cT y = 0 ↔ y = 1 := by unfold cT; split <;> omega
theorem cT_1 {y : Nat} : cT y = 1 ↔ y = 2 := by unfold cT; split <;> omega
theorem cT_2 {y : Nat} : cT y = 2 ↔ y = 3 := by unfold cT; split <;> omega
theorem cT_4 {y : Nat} (h : y ≤ 4) : cT y = 4 ↔ y = 0 := by unfold cT; split <;> omega
theorem isN_t {B : Nat → Int32} {n p A C : Nat} {v : Int32} (h6 : tT B n p = 2 → v = tV B n p) (h5 : cT (tT B n p) = 1) (h1 : ¬ v < nI A) (h2 : ¬ nI C < v) (hC : C < 2147483648 ∧ A < 2147483648) : isN B n p A C := by
  have e := cT_1.mp h5
  have e6 := h6 e
  simp only [Int32.lt_iff_toInt_lt, nI_i2 hC.1, nI_i2 hC.2] at h1 h2
  rw [e6] at h1 h2
  exact ⟨e, by omega, by omega⟩
theorem isN_f5 {B : Nat → Int32} {n p A C : Nat} (h5 : cT (tT B n p) ≠ 1) : ¬ isN B n p A C := fun z => h5 (cT_1.mpr z.1)
theorem isN_f1 {B : Nat → Int32} {n p A C : Nat} {v : Int32} (h6 : tT B n p = 2 → v = tV B n p) (h1 : v < nI A) (hC : C < 2147483648 ∧ A < 2147483648) : ¬ isN B n p A C := fun z => by
  rw [h6 z.1] at h1
  have h3 := z.2.1
  simp only [Int32.lt_iff_toInt_lt, nI_i2 hC.2] at h1
  omega
theorem isN_f2 {B : Nat → Int32} {n p A C : Nat} {v : Int32} (h6 : tT B n p = 2 → v = tV B n p) (h2 : nI C < v) (hC : C < 2147483648 ∧ A < 2147483648) : ¬ isN B n p A C := fun z => by
  rw [h6 z.1] at h2
  have h3 := z.2.2
  simp only [Int32.lt_iff_toInt_lt, nI_i2 hC.1] at h2
  omega
theorem al_s {P : Nat → Prop} {j : Nat} (h : ∀ k, k < j → P k) (h2 : P j) : ∀ k, k < j + 1 → P k := fun k hk => by
  by_cases e : k = j
  · subst e; exact h2
  · exact h k (by omega)
theorem bq1 {P : Prop} [Decidable P] : nI 1 = (if P then (1 : Int32) else 0) ↔ P := by
  by_cases h : P
  · rw [if_pos h]; exact ⟨fun _ => h, fun _ => rfl⟩
  · rw [if_neg h]; exact ⟨fun z => absurd z (by decide), fun z => absurd z h⟩
theorem bq0 {P : Prop} [Decidable P] : nI 0 = (if P then (1 : Int32) else 0) ↔ ¬ P := by
  by_cases h : P
  · rw [if_pos h]; exact ⟨fun z => absurd z (by decide), fun z => absurd h z⟩
  · rw [if_neg h]; exact ⟨fun _ => h, fun _ => rfl⟩
def kT (B : Nat → Int32) (n p t : Nat) (h : xI) : Prop := h t 3 = nI (tE B n p) ∧ h t 4 = nI (tS B n p) ∧ h t 5 = nI (cT (tT B n p)) ∧ (tT B n p = 2 → h t 6 = tV B n p)
def tF (t : Nat) (h h' : xI) : Prop := ∀ q i, (q ≠ t ∨ i < 3) → (q < t + 2 ∨ t + 4 < q) → h' q i = h q i
def xC (B : Nat → Int32) (n t : Nat) (h : xI) (r : rT) (h' : xI) : Prop := tF t h h' ∧ kT B n r.2.1 t h' ∧ atOk h' (t + 2) ∧ (r.1 = true → rC h' (t + 2) r.2.2 ∧ nOk r.2.2)
/-- true or false comes, as r says -/
def pBr (r : rT) (Q : xI → Prop) : Option Value → xI → xJ → Prop := fun v h' _ => ∃ y : Int32, v = some (.int y) ∧ (y = 0 ∨ y = 1) ∧ (¬ y = 0 ↔ r.1 = true) ∧ Q h'
theorem at_k {h h' : xI} {n : Nat} (e : ∀ i, h' n i = h n i) (H : atOk h n) : atOk h' n := by
  obtain ⟨c, hc, z⟩ := H
  exact ⟨c, hc, by rw [e]; exact z⟩
theorem pBr_t {r : rT} {P : Nat} {z : nS} {Q : xI → Prop} {h' : xI} {g' : xJ} (hr : r = (true, P, z)) (H : Q h') : pBr r Q (some (.int (nI 1))) h' g' := ⟨_, rfl, Or.inr rfl, ⟨fun _ => by rw [hr], fun _ => by decide⟩, H⟩
theorem pBr_f {r : rT} {P : Nat} {z : nS} {Q : xI → Prop} {h' : xI} {g' : xJ} (hr : r = (false, P, z)) (H : Q h') : pBr r Q (some (.int (nI 0))) h' g' := ⟨_, rfl, Or.inl rfl, ⟨fun w => absurd rfl w, fun w => by rw [hr] at w; cases w⟩, H⟩
theorem xC_t {B : Nat → Int32} {n t P : Nat} {h h' : xI} {r : rT} {z : nS} (hr : r = (true, P, z)) (f : tF t h h') (k : kT B n P t h') (c : rC h' (t + 2) z) (o : nOk z) : xC B n t h r h' := by
  subst hr; exact ⟨f, k, rC_at c o, fun _ => ⟨c, o⟩⟩
theorem xC_f {B : Nat → Int32} {n t P : Nat} {h h' : xI} {r : rT} {z : nS} (hr : r = (false, P, z)) (f : tF t h h') (k : kT B n P t h') (c : atOk h' (t + 2)) : xC B n t h r h' := by
  subst hr; exact ⟨f, k, c, fun w => by cases w⟩
theorem tF_t {t : Nat} {h h1 h2 : xI} (a : tF t h h1) (b : tF t h1 h2) : tF t h h2 := fun q i z1 z2 => (b q i z1 z2).trans (a q i z1 z2)
set_option maxHeartbeats 4000000 in
set_option maxRecDepth 100000 in
theorem cx_X5_isNumber {l : Launch} {w : Kw} (hw : wOk w) {t : Nat} (hX : shX w t) {B : Nat → Int32} {n p A C : Nat} (hC : C < 2147483648 ∧ A < 2147483648) (h : xI) (g : xJ) (ht5 : h t 5 = nI (cT (tT B n p))) (ht6 : tT B n p = 2 → h t 6 = tV B n p) : Ct l w yX5_isNumber cX5_isNumber 3 (some .boolean) 0 0 [.ref (wA w (t)), .int (nI (A)), .int (nI (C))] h g (px (some (.int (if isN B n p A C then 1 else 0))) h g) := by
  refine Ct_of (ls := [some (.ref (wA w (t))), some (.int (nI (A))), some (.int (nI (C)))]) (by decide) hw (Nat.le_of_ble_eq_true rfl) rfl (fun k hkl C => ?_)
  have C : Cx k w cX5_isNumber RX5 3 (some .boolean) 0 0 := C
  have D := dtX5_isNumber
  subst hkl
  have hX0 := hX
  obtain ⟨htn, hst, hs1, hN2⟩ := hX
  have hX := hX0
  have hcl := cT_le (tT_le B n p)
  refine X_aload_n C 0 (D (0, .aload_n 0, 1) (mg 0 rfl)) rfl rfl ?_
  refine X_get (v := .int (h (t) 5)) C (t) 5 (by omega) hst rfl rfl (by decide) inX5 fX5_29 rfl (D (1, .getfield 29, 3) (mg 1 rfl)) rfl ?_
  refine X_ti (y := nI (cT (tT B n (p)))) (ht5) ?_
  refine X_iconst (v := nI (1)) C (D (4, .iconst 1, 1) (mg 2 rfl)) (by decide) ?_
  refine X_icmp_ne (tgt := 28) C (D (5, .if_icmp .ne 23, 3) (mg 3 rfl)) (by decide) (fun q1 => ?_) (fun q1 => ?_)
  · skip
    have q1 : (cT (tT B n (p))) ≠ (1) := by have z : ¬ ((cT (tT B n (p))) = (1)) := fun u => q1 ((nI_eq (a := (cT (tT B n (p)))) (b := (1)) (by omega) (by omega)).mpr u); omega
    refine X_iconst (v := nI (0)) C (D (28, .iconst 0, 1) (mg 14 rfl)) (by decide) ?_
    exact X_zret C (D (29, .ireturn, 1) (mg 15 rfl)) rfl ⟨pf (by first | exact isN_f5 (by assumption) | exact isN_f1 ht6 (by assumption) hC | exact isN_f2 ht6 (by assumption) hC), rfl, rfl⟩
  · skip
    have q1 : (cT (tT B n (p))) = (1) := by have z := (nI_eq (a := (cT (tT B n (p)))) (b := (1)) (by omega) (by omega)).mp q1; omega
    refine X_aload_n C 0 (D (8, .aload_n 0, 1) (mg 4 rfl)) rfl rfl ?_
    refine X_get (v := .int (h (t) 6)) C (t) 6 (by omega) hst rfl rfl (by decide) inX5 fX5_55 rfl (D (9, .getfield 55, 3) (mg 5 rfl)) rfl ?_
    refine X_iload_n C 1 (D (12, .iload_n 1, 1) (mg 6 rfl)) rfl rfl ?_
    refine X_icmp_lt (tgt := 28) C (D (13, .if_icmp .lt 15, 3) (mg 7 rfl)) (by decide) (fun q2 => ?_) (fun q2 => ?_)
    · skip
      refine X_iconst (v := nI (0)) C (D (28, .iconst 0, 1) (mg 14 rfl)) (by decide) ?_
      exact X_zret C (D (29, .ireturn, 1) (mg 15 rfl)) rfl ⟨pf (by first | exact isN_f5 (by assumption) | exact isN_f1 ht6 (by assumption) hC | exact isN_f2 ht6 (by assumption) hC), rfl, rfl⟩
    · skip
      refine X_aload_n C 0 (D (16, .aload_n 0, 1) (mg 8 rfl)) rfl rfl ?_
      refine X_get (v := .int (h (t) 6)) C (t) 6 (by omega) hst rfl rfl (by decide) inX5 fX5_55 rfl (D (17, .getfield 55, 3) (mg 9 rfl)) rfl ?_
      refine X_iload_n C 2 (D (20, .iload_n 2, 1) (mg 10 rfl)) rfl rfl ?_
      refine X_icmp_gt (tgt := 28) C (D (21, .if_icmp .gt 7, 3) (mg 11 rfl)) (by decide) (fun q3 => ?_) (fun q3 => ?_)
      · skip
        refine X_iconst (v := nI (0)) C (D (28, .iconst 0, 1) (mg 14 rfl)) (by decide) ?_
        exact X_zret C (D (29, .ireturn, 1) (mg 15 rfl)) rfl ⟨pf (by first | exact isN_f5 (by assumption) | exact isN_f1 ht6 (by assumption) hC | exact isN_f2 ht6 (by assumption) hC), rfl, rfl⟩
      · skip
        refine X_iconst (v := nI (1)) C (D (24, .iconst 1, 1) (mg 12 rfl)) (by decide) ?_
        refine X_goto (tgt := 29) C (D (25, .goto 4, 3) (mg 13 rfl)) (by decide) ?_
        exact X_zret C (D (29, .ireturn, 1) (mg 15 rfl)) rfl ⟨pt (isN_t ht6 (by assumption) (by assumption) (by assumption) hC), rfl, rfl⟩
set_option maxHeartbeats 4000000 in
set_option maxRecDepth 100000 in
theorem cx_X5_isWord {l : Launch} {w : Kw} (hw : wOk w) {t n : Nat} (hX : shX w t) (hn : n ≤ 150) {B : Nat → Int32} {aK aV : Nat → Nat} {zr : Value} (hs : sOk w aK aV zr) (hz : zr = .null ∨ ∃ ra, zr = .ref ra) {p : Nat} (hp : p ≤ n) {i : Nat} (hi : i < 5) (h : xI) (g : xJ) (hb : h t 2 = nI n) (hB : ∀ i, i < n → h (t + 1) i = B i) (ht3 : h t 3 = nI (tE B n p)) (ht4 : h t 4 = nI (tS B n p)) : Ct l w yX5_isWord cX5_isWord 3 (some .boolean) 4 85 [.ref (wA w (t)), .ref (aK (i))] h g (px (some (.int (if isV B n p i then 1 else 0))) h g) := by
  refine Ct_of (ls := [some (.ref (wA w (t))), some (.ref (aK (i))), none]) (by decide) hw (Nat.le_of_ble_eq_true rfl) rfl (fun k hkl C => ?_)
  have C : Cx k w cX5_isWord RX5 3 (some .boolean) 4 85 := C
  have D := dtX5_isWord
  subst hkl
  have hX0 := hX
  obtain ⟨htn, hst, hs1, hN2⟩ := hX
  have hX := hX0
  have hl5 := (s_len i hi).1
  have hle0 : tE B n p ≤ n := tE_le hp
  have hse0 := tSE B n p
  refine X_aload_n C 0 (D (0, .aload_n 0, 1) (mg 0 rfl)) rfl rfl ?_
  refine X_get (v := .int (h (t) 3)) C (t) 3 (by omega) hst rfl rfl (by decide) inX5 fX5_22 rfl (D (1, .getfield 22, 3) (mg 1 rfl)) rfl ?_
  refine X_ti (y := nI (tE B n (p))) (ht3) ?_
  refine X_aload_n C 0 (D (4, .aload_n 0, 1) (mg 2 rfl)) rfl rfl ?_
  refine X_get (v := .int (h (t) 4)) C (t) 4 (by omega) hst rfl rfl (by decide) inX5 fX5_36 rfl (D (5, .getfield 36, 3) (mg 3 rfl)) rfl ?_
  refine X_ti (y := nI (tS B n (p))) (ht4) ?_
  refine X_isub C (D (8, .isub, 1) (mg 4 rfl)) ?_
  refine X_ti (y := nI (tE B n (p) - tS B n (p))) (pk_sub (by omega)) ?_
  refine X_aload_n C 1 (D (9, .aload_n 1, 1) (mg 5 rfl)) rfl rfl ?_
  refine X_cVO (As := []) (st := [.int (nI (tE B n (p) - tS B n (p)))]) C (post := _) (fun U e => ((hs U e).1.1 _ hi).1) (ct_J0_length_8abf5 hw hs (i := i) hi h g) kX5_87 (by decide) (by decide) rfl rfl (Nat.le_of_ble_eq_true rfl) (D (10, .invokevirtual 87, 3) (mg 6 rfl)) rfl (fun v3 H1 G2 hv3 => ?_)
  obtain ⟨rfl, rfl, rfl⟩ := hv3
  show X k w _ 13 [some (.ref (wA w (t))), some (.ref (aK (i))), none] [.int (nI (sLen.getD (i) 0)), .int (nI (tE B n (p) - tS B n (p)))] h g
  refine X_icmp_eq (tgt := 18) C (D (13, .if_icmp .eq 5, 3) (mg 7 rfl)) (by decide) (fun q4 => ?_) (fun q4 => ?_)
  · skip
    have q4 : (tE B n (p) - tS B n (p)) = (sLen.getD (i) 0) := by have z := (nI_eq (a := (tE B n (p) - tS B n (p))) (b := (sLen.getD (i) 0)) (by omega) (by omega)).mp q4; omega
    refine X_iconst (v := nI (0)) C (D (18, .iconst 0, 1) (mg 10 rfl)) (by decide) ?_
    refine X_istore_n (ls' := [some (.ref (wA w (t))), some (.ref (aK (i))), some (.int (nI (0)))]) C 2 (D (19, .istore_n 2, 1) (mg 11 rfl)) rfl (Nat.le_of_ble_eq_true rfl) rfl ?_
    have lp20 : ∀ (nn20 : Nat) (j : Nat), (j ≤ sLen.getD (i) 0) → (∀ k, k < j → B (tS B n p + k) = sCh i k) → 6 - j ≤ nn20 → X k w (Zq k w (px (some (.int (if isV B n p i then 1 else 0))) h g)) 20 [some (.ref (wA w (t))), some (.ref (aK (i))), some (.int (nI (j)))] [] h g := by
      intro nn20
      induction nn20 with
      | zero => intro j hc20_0 hc20_1 hz; exact absurd hz (by omega)
      | succ nn20 ih20 =>
        intro j hc20_0 hc20_1 hz20
        refine X_iload_n C 2 (D (20, .iload_n 2, 1) (mg 12 rfl)) rfl rfl ?_
        refine X_aload_n C 1 (D (21, .aload_n 1, 1) (mg 13 rfl)) rfl rfl ?_
        refine X_cVO (As := []) (st := [.int (nI (j))]) C (post := _) (fun U e => ((hs U e).1.1 _ hi).1) (ct_J0_length_8abf5 hw hs (i := i) hi h g) kX5_87 (by decide) (by decide) rfl rfl (Nat.le_of_ble_eq_true rfl) (D (22, .invokevirtual 87, 3) (mg 14 rfl)) rfl (fun v7 H5 G6 hv7 => ?_)
        obtain ⟨rfl, rfl, rfl⟩ := hv7
        show X k w _ 25 [some (.ref (wA w (t))), some (.ref (aK (i))), some (.int (nI (j)))] [.int (nI (sLen.getD (i) 0)), .int (nI (j))] h g
        refine X_icmp_ge (tgt := 55) C (D (25, .if_icmp .ge 30, 3) (mg 15 rfl)) (by decide) (fun q8 => ?_) (fun q8 => ?_)
        · skip
          have q8 : (j) ≥ (sLen.getD (i) 0) := by have z := (nI_leI (a := (sLen.getD (i) 0)) (b := (j)) (by omega) (by omega)).mp q8; omega
          refine X_iconst (v := nI (1)) C (D (55, .iconst 1, 1) (mg 31 rfl)) (by decide) ?_
          exact X_zret C (D (56, .ireturn, 1) (mg 32 rfl)) rfl ⟨pt ⟨by omega, fun k hk => hc20_1 k (by omega)⟩, rfl, rfl⟩
        · skip
          have q8 : (j) < (sLen.getD (i) 0) := by have z : ¬ ((sLen.getD (i) 0) ≤ (j)) := fun u => q8 ((nI_leI (a := (sLen.getD (i) 0)) (b := (j)) (by omega) (by omega)).mpr u); omega
          refine X_aload_n C 0 (D (28, .aload_n 0, 1) (mg 16 rfl)) rfl rfl ?_
          refine X_get (v := .ref (wA w (t + 1))) C (t) 0 (by omega) hst rfl rfl (by decide) inX5 fX5_9 rfl (D (29, .getfield 9, 3) (mg 17 rfl)) rfl ?_
          refine X_aload_n C 0 (D (32, .aload_n 0, 1) (mg 18 rfl)) rfl rfl ?_
          refine X_get (v := .int (h (t) 4)) C (t) 4 (by omega) hst rfl rfl (by decide) inX5 fX5_36 rfl (D (33, .getfield 36, 3) (mg 19 rfl)) rfl ?_
          refine X_ti (y := nI (tS B n (p))) (ht4) ?_
          refine X_iload_n C 2 (D (36, .iload_n 2, 1) (mg 20 rfl)) rfl rfl ?_
          refine X_iadd C (D (37, .iadd, 1) (mg 21 rfl)) ?_
          refine X_ti (y := nI (tS B n (p) + j)) (nI_add (tS B n (p)) (j)) ?_
          refine X_iald (v := h (t + 1) (tS B n (p) + j)) C (t + 1) (by omega) hs1 (vp_in_nI (by omega) (by omega)) (D (38, .iaload, 1) (mg 22 rfl)) (by rw [nI_clamp (by omega)]) ?_
          refine X_aload_n C 1 (D (39, .aload_n 1, 1) (mg 23 rfl)) rfl rfl ?_
          refine X_iload_n C 2 (D (40, .iload_n 2, 1) (mg 24 rfl)) rfl rfl ?_
          refine X_cVO (As := [.int (nI (j))]) (st := [.int (h (t + 1) (tS B n (p) + j))]) C (post := _) (fun U e => ((hs U e).1.1 _ hi).1) (ct_J0_charAt_5068e hw hs hz (i := i) (j := j) hi (by omega) h g) kX5_93 (by decide) (by decide) rfl rfl (Nat.le_of_ble_eq_true rfl) (D (41, .invokevirtual 93, 3) (mg 25 rfl)) rfl (fun v11 H9 G10 hv11 => ?_)
          obtain ⟨rfl, rfl, rfl⟩ := hv11
          show X k w _ 44 [some (.ref (wA w (t))), some (.ref (aK (i))), some (.int (nI (j)))] [.int (sCh (i) (j)), .int (h (t + 1) (tS B n (p) + j))] h g
          refine X_icmp_eq (tgt := 49) C (D (44, .if_icmp .eq 5, 3) (mg 26 rfl)) (by decide) (fun q12 => ?_) (fun q12 => ?_)
          · skip
            refine X_iinc (v := nI (j + 1)) (ls' := [some (.ref (wA w (t))), some (.ref (aK (i))), some (.int (nI (j + 1)))]) C (D (49, .iinc 2 1, 3) (mg 29 rfl)) rfl (nI_add (j) 1) rfl ?_
            refine X_goto (tgt := 20) C (D (52, .goto (-32), 3) (mg 30 rfl)) (by decide) ?_
            refine X_eq (ls' := [some (.ref (wA w (t))), some (.ref (aK (i))), some (.int (nI (j + 1)))]) (st' := []) (h' := h) (g' := g) rfl rfl rfl rfl ?_
            exact ih20 (j + 1) (by omega) (al_s hc20_1 ((hB _ (by omega)).symm.trans (by assumption))) (by omega)
          · skip
            refine X_iconst (v := nI (0)) C (D (47, .iconst 0, 1) (mg 27 rfl)) (by decide) ?_
            exact X_zret C (D (48, .ireturn, 1) (mg 28 rfl)) rfl ⟨pf (fun w => (by assumption : ¬ h (t + 1) (tS B n (p) + j) = sCh (i) (j)) ((hB _ (by omega)).trans (w.2 j (by omega)))), rfl, rfl⟩
    refine X_eq (ls' := [some (.ref (wA w (t))), some (.ref (aK (i))), some (.int (nI (0)))]) (st' := []) (h' := h) (g' := g) rfl rfl rfl rfl ?_
    exact lp20 _ (0) (by omega) (fun k hk => absurd hk (by omega)) (Nat.le_refl _)
  · skip
    have q4 : (tE B n (p) - tS B n (p)) ≠ (sLen.getD (i) 0) := by have z : ¬ ((tE B n (p) - tS B n (p)) = (sLen.getD (i) 0)) := fun u => q4 ((nI_eq (a := (tE B n (p) - tS B n (p))) (b := (sLen.getD (i) 0)) (by omega) (by omega)).mpr u); omega
    refine X_iconst (v := nI (0)) C (D (16, .iconst 0, 1) (mg 8 rfl)) (by decide) ?_
    exact X_zret C (D (17, .ireturn, 1) (mg 9 rfl)) rfl ⟨pf (fun w => absurd w.1 (by omega)), rfl, rfl⟩
set_option maxHeartbeats 4000000 in
set_option maxRecDepth 100000 in
theorem cx_X5_takesNave {l : Launch} {w : Kw} (hw : wOk w) {t n : Nat} (hX : shX w t) (hn : n ≤ 150) {B : Nat → Int32} {p : Nat} (hp : p ≤ n) (h : xI) (g : xJ) (hb : h t 2 = nI n) (hB : ∀ i, i < n → h (t + 1) i = B i) (hk : kT B n p t h) (hat0 : atOk h (t + 2)) : Ct l w yX5_takesNave cX5_takesNave 2 (some .boolean) 3 60 [.ref (wA w (t))] h g (pBr (pNav B n (tE B n (p))) (xC B n t h (pNav B n (tE B n (p))))) := by
  refine Ct_of (ls := [some (.ref (wA w (t))), none]) (by decide) hw (Nat.le_of_ble_eq_true rfl) rfl (fun k hkl C => ?_)
  have C : Cx k w cX5_takesNave RX5 2 (some .boolean) 3 60 := C
  have D := dtX5_takesNave
  subst hkl
  have hX0 := hX
  obtain ⟨htn, hst, hs1, hN2⟩ := hX
  have hX := hX0
  obtain ⟨ht3, ht4, ht5, ht6⟩ := hk
  have hle0 : tE B n p ≤ n := tE_le hp
  refine X_aload_n C 0 (D (0, .aload_n 0, 1) (mg 0 rfl)) rfl rfl ?_
  refine X_cV (As := []) (st := []) C (post := _) (t) (by omega) hst rfl (cx_X5_advance hw (t := t) (n := n) hX hn (B := B) (p := tE B n (p)) (tE_le (by omega)) h g (hb) hB (ht3)) kX5_26 (by decide) (by decide) rfl rfl (Nat.le_of_ble_eq_true rfl) (D (1, .invokevirtual 26, 3) (mg 1 rfl)) rfl (fun v3 H1 G2 hv3 => ?_)
  obtain ⟨rfl, f4, ae5, be5, ce5, de5⟩ := hv3
  have hle5 : tE B n (p) ≤ n := tE_le (by omega)
  have hme5 := cT_le (tT_le B n (tE B n (p)))
  show X k w _ 4 [some (.ref (wA w (t))), none] [] H1 G2
  refine X_aload_n C 0 (D (4, .aload_n 0, 1) (mg 2 rfl)) rfl rfl ?_
  refine X_iconst (v := nI (0)) C (D (5, .iconst 0, 1) (mg 3 rfl)) (by decide) ?_
  refine X_iconst (v := nI (5)) C (D (6, .iconst 5, 1) (mg 4 rfl)) (by decide) ?_
  refine X_cV (As := [.int (nI (0)), .int (nI (5))]) (st := []) C (post := _) (t) (by omega) hst rfl (cx_X5_isNumber hw (t := t) hX (B := B) (n := n) (p := tE B n (p)) (A := 0) (C := 5) (by decide) H1 G2 (ce5) de5) kX5_97 (by decide) (by decide) rfl rfl (Nat.le_of_ble_eq_true rfl) (D (7, .invokevirtual 97, 3) (mg 5 rfl)) rfl (fun v8 H6 G7 hv8 => ?_)
  obtain ⟨rfl, rfl, rfl⟩ := hv8
  show X k w _ 10 [some (.ref (wA w (t))), none] [.int (if isN B n (tE B n (p)) (0) (5) then 1 else 0)] H1 G2
  refine X_if_ne (tgt := 15) C (D (10, .ifCond .ne 5, 3) (mg 6 rfl)) (by decide) (fun q9 => ?_) (fun q9 => ?_)
  · skip
    have q9 : (isN B n (tE B n (p)) (0) (5)) := bz1.mp q9
    obtain ⟨hlv10, huv10, ev10⟩ := isN_v q9
    have evv10 : H1 t 6 = nI (nV B n (tE B n (p))) := (de5 (q9).1).trans ev10
    refine X_aload_n C 0 (D (15, .aload_n 0, 1) (mg 9 rfl)) rfl rfl ?_
    refine X_get (v := .int (H1 (t) 6)) C (t) 6 (by omega) hst rfl rfl (by decide) inX5 fX5_55 rfl (D (16, .getfield 55, 3) (mg 10 rfl)) rfl ?_
    refine X_ti (y := nI (nV B n (tE B n (p)))) (evv10) ?_
    refine X_istore_n (ls' := [some (.ref (wA w (t))), some (.int (nI (nV B n (tE B n (p)))))]) C 1 (D (19, .istore_n 1, 1) (mg 11 rfl)) rfl (Nat.le_of_ble_eq_true rfl) rfl ?_
    refine X_aload_n C 0 (D (20, .aload_n 0, 1) (mg 12 rfl)) rfl rfl ?_
    refine X_cV (As := []) (st := []) C (post := _) (t) (by omega) hst rfl (cx_X5_advance hw (t := t) (n := n) hX hn (B := B) (p := tE B n (tE B n (p))) (tE_le (by omega)) H1 G2 (((f4 _ _ (by omega))).trans hb) (fun i hi => by rw [f4 _ _ (by omega)]; exact hB i hi) (ae5)) kX5_26 (by decide) (by decide) rfl rfl (Nat.le_of_ble_eq_true rfl) (D (21, .invokevirtual 26, 3) (mg 13 rfl)) rfl (fun v13 H11 G12 hv13 => ?_)
    obtain ⟨rfl, f14, ae15, be15, ce15, de15⟩ := hv13
    have hle15 : tE B n (tE B n (p)) ≤ n := tE_le (by omega)
    have hme15 := cT_le (tT_le B n (tE B n (tE B n (p))))
    show X k w _ 24 [some (.ref (wA w (t))), some (.int (nI (nV B n (tE B n (p)))))] [] H11 G12
    refine X_aload_n C 0 (D (24, .aload_n 0, 1) (mg 14 rfl)) rfl rfl ?_
    refine X_iconst (v := nI (0)) C (D (25, .iconst 0, 1) (mg 15 rfl)) (by decide) ?_
    refine X_bipush (v := nI (24)) C (D (26, .bipush 24, 2) (mg 16 rfl)) (by decide) ?_
    refine X_cV (As := [.int (nI (0)), .int (nI (24))]) (st := []) C (post := _) (t) (by omega) hst rfl (cx_X5_isNumber hw (t := t) hX (B := B) (n := n) (p := tE B n (tE B n (p))) (A := 0) (C := 24) (by decide) H11 G12 (ce15) de15) kX5_97 (by decide) (by decide) rfl rfl (Nat.le_of_ble_eq_true rfl) (D (28, .invokevirtual 97, 3) (mg 17 rfl)) rfl (fun v18 H16 G17 hv18 => ?_)
    obtain ⟨rfl, rfl, rfl⟩ := hv18
    show X k w _ 31 [some (.ref (wA w (t))), some (.int (nI (nV B n (tE B n (p)))))] [.int (if isN B n (tE B n (tE B n (p))) (0) (24) then 1 else 0)] H11 G12
    refine X_if_ne (tgt := 36) C (D (31, .ifCond .ne 5, 3) (mg 18 rfl)) (by decide) (fun q19 => ?_) (fun q19 => ?_)
    · skip
      have q19 : (isN B n (tE B n (tE B n (p))) (0) (24)) := bz1.mp q19
      obtain ⟨hlv20, huv20, ev20⟩ := isN_v q19
      have evv20 : H11 t 6 = nI (nV B n (tE B n (tE B n (p)))) := (de15 (q19).1).trans ev20
      refine X_aload_n C 0 (D (36, .aload_n 0, 1) (mg 21 rfl)) rfl rfl ?_
      refine X_get (v := .ref (wA w (t + 2))) C (t) 1 (by omega) hst rfl rfl (by decide) inX5 fX5_18 rfl (D (37, .getfield 18, 3) (mg 22 rfl)) rfl ?_
      refine X_iload_n C 1 (D (40, .iload_n 1, 1) (mg 23 rfl)) rfl rfl ?_
      refine X_aload_n C 0 (D (41, .aload_n 0, 1) (mg 24 rfl)) rfl rfl ?_
      refine X_get (v := .int (H11 (t) 6)) C (t) 6 (by omega) hst rfl rfl (by decide) inX5 fX5_55 rfl (D (42, .getfield 55, 3) (mg 25 rfl)) rfl ?_
      refine X_ti (y := nI (nV B n (tE B n (tE B n (p))))) (evv20) ?_
      refine X_cV (As := [.int (nI (nV B n (tE B n (p)))), .int (nI (nV B n (tE B n (tE B n (p)))))]) (st := []) C (post := _) (t + 2) (by omega) hN2.2.1 rfl (ct_X1_begin hw (n := t + 2) hN2 (nI (nV B n (tE B n (p)))) (nI (nV B n (tE B n (tE B n (p))))) H11 G12) kX5_101 (by decide) (by decide) rfl rfl (Nat.le_of_ble_eq_true rfl) (D (45, .invokevirtual 101, 3) (mg 26 rfl)) rfl (fun v23 H21 G22 hv23 => ?_)
      obtain ⟨rfl, rfl, rfl⟩ := hv23
      show X k w _ 48 [some (.ref (wA w (t))), some (.int (nI (nV B n (tE B n (p)))))] [] (cbH H11 (t + 2) (nI (nV B n (tE B n (p)))) (nI (nV B n (tE B n (tE B n (p)))))) G12
      refine X_aload_n C 0 (D (48, .aload_n 0, 1) (mg 27 rfl)) rfl rfl ?_
      refine X_cV (As := []) (st := []) C (post := _) (t) (by omega) hst rfl (cx_X5_advance hw (t := t) (n := n) hX hn (B := B) (p := tE B n (tE B n (tE B n (p)))) (tE_le (by omega)) (cbH H11 (t + 2) (nI (nV B n (tE B n (p)))) (nI (nV B n (tE B n (tE B n (p)))))) G12 (((((cbH_ne _ _ _ _ (by omega))).trans (f14 _ _ (by omega))).trans (f4 _ _ (by omega))).trans hb) (fun i hi => by rw [cbH_ne _ _ _ _ (by omega), f14 _ _ (by omega), f4 _ _ (by omega)]; exact hB i hi) (((cbH_ne _ _ _ _ (by omega))).trans ae15)) kX5_26 (by decide) (by decide) rfl rfl (Nat.le_of_ble_eq_true rfl) (D (49, .invokevirtual 26, 3) (mg 28 rfl)) rfl (fun v26 H24 G25 hv26 => ?_)
      obtain ⟨rfl, f27, ae28, be28, ce28, de28⟩ := hv26
      have hle28 : tE B n (tE B n (tE B n (p))) ≤ n := tE_le (by omega)
      have hme28 := cT_le (tT_le B n (tE B n (tE B n (tE B n (p)))))
      show X k w _ 52 [some (.ref (wA w (t))), some (.int (nI (nV B n (tE B n (p)))))] [] H24 G25
      refine X_iconst (v := nI (1)) C (D (52, .iconst 1, 1) (mg 29 rfl)) (by decide) ?_
      exact X_zret C (D (53, .ireturn, 1) (mg 30 rfl)) rfl (have hr : pNav B n (tE B n (p)) = (true, tE B n (tE B n (tE B n (p))), nBeg (nV B n (tE B n (p))) (nV B n (tE B n (tE B n (p))))) := (by unfold pNav; exact ((if_pos (by assumption)).trans (if_pos (by assumption)))); pBr_t hr (xC_t hr (fun q i z1 z2 => by rw [f27 _ _ (by omega), cbH_ne _ _ _ _ (by omega), f14 _ _ (by omega), f4 _ _ (by omega)]) ⟨(ae28), (be28), (ce28), de28⟩ (rC_k (fun q i z1 z2 => f27 _ _ (by omega)) (rC_beg _ _ _ _)) (nBeg_ok (by omega) (by omega))))
    · skip
      have q19 : ¬ (isN B n (tE B n (tE B n (p))) (0) (24)) := bz0.mp q19
      refine X_iconst (v := nI (0)) C (D (34, .iconst 0, 1) (mg 19 rfl)) (by decide) ?_
      exact X_zret C (D (35, .ireturn, 1) (mg 20 rfl)) rfl (have hr : pNav B n (tE B n (p)) = (false, tE B n (tE B n (p)), nBeg 0 0) := (by unfold pNav; exact ((if_pos (by assumption)).trans (if_neg (by assumption)))); pBr_f hr (xC_f hr (fun q i z1 z2 => by rw [f14 _ _ (by omega), f4 _ _ (by omega)]) ⟨(ae15), (be15), (ce15), de15⟩ (at_k (fun i => by rw [f14 _ _ (by omega), f4 _ _ (by omega)]) hat0)))
  · skip
    have q9 : ¬ (isN B n (tE B n (p)) (0) (5)) := bz0.mp q9
    refine X_iconst (v := nI (0)) C (D (13, .iconst 0, 1) (mg 7 rfl)) (by decide) ?_
    exact X_zret C (D (14, .ireturn, 1) (mg 8 rfl)) rfl (have hr : pNav B n (tE B n (p)) = (false, tE B n (p), nBeg 0 0) := (by unfold pNav; exact (if_neg (by assumption))); pBr_f hr (xC_f hr (fun q i z1 z2 => by rw [f4 _ _ (by omega)]) ⟨(ae5), (be5), (ce5), de5⟩ (at_k (fun i => by rw [f4 _ _ (by omega)]) hat0)))
set_option maxHeartbeats 4000000 in
set_option maxRecDepth 100000 in
theorem cx_X5_takesStony {l : Launch} {w : Kw} (hw : wOk w) {t n : Nat} (hX : shX w t) (hn : n ≤ 150) {B : Nat → Int32} {p : Nat} (hp : p ≤ n) {z : nS} (h : xI) (g : xJ) (hb : h t 2 = nI n) (hB : ∀ i, i < n → h (t + 1) i = B i) (hk : kT B n p t h) (hrc : rC h (t + 2) z) (hok : nOk z) : Ct l w yX5_takesStony cX5_takesStony 2 (some .boolean) 3 60 [.ref (wA w (t))] h g (pBr (pSto B n (tE B n (p)) z) (xC B n t h (pSto B n (tE B n (p)) z))) := by
  refine Ct_of (ls := [some (.ref (wA w (t))), none]) (by decide) hw (Nat.le_of_ble_eq_true rfl) rfl (fun k hkl C => ?_)
  have C : Cx k w cX5_takesStony RX5 2 (some .boolean) 3 60 := C
  have D := dtX5_takesStony
  subst hkl
  have hX0 := hX
  obtain ⟨htn, hst, hs1, hN2⟩ := hX
  have hX := hX0
  obtain ⟨ht3, ht4, ht5, ht6⟩ := hk
  have hle0 : tE B n p ≤ n := tE_le hp
  have hat0 := rC_at hrc hok
  refine X_aload_n C 0 (D (0, .aload_n 0, 1) (mg 0 rfl)) rfl rfl ?_
  refine X_cV (As := []) (st := []) C (post := _) (t) (by omega) hst rfl (cx_X5_advance hw (t := t) (n := n) hX hn (B := B) (p := tE B n (p)) (tE_le (by omega)) h g (hb) hB (ht3)) kX5_26 (by decide) (by decide) rfl rfl (Nat.le_of_ble_eq_true rfl) (D (1, .invokevirtual 26, 3) (mg 1 rfl)) rfl (fun v3 H1 G2 hv3 => ?_)
  obtain ⟨rfl, f4, ae5, be5, ce5, de5⟩ := hv3
  have hle5 : tE B n (p) ≤ n := tE_le (by omega)
  have hme5 := cT_le (tT_le B n (tE B n (p)))
  show X k w _ 4 [some (.ref (wA w (t))), none] [] H1 G2
  refine X_aload_n C 0 (D (4, .aload_n 0, 1) (mg 2 rfl)) rfl rfl ?_
  refine X_iconst (v := nI (0)) C (D (5, .iconst 0, 1) (mg 3 rfl)) (by decide) ?_
  refine X_bipush (v := nI (24)) C (D (6, .bipush 24, 2) (mg 4 rfl)) (by decide) ?_
  refine X_cV (As := [.int (nI (0)), .int (nI (24))]) (st := []) C (post := _) (t) (by omega) hst rfl (cx_X5_isNumber hw (t := t) hX (B := B) (n := n) (p := tE B n (p)) (A := 0) (C := 24) (by decide) H1 G2 (ce5) de5) kX5_97 (by decide) (by decide) rfl rfl (Nat.le_of_ble_eq_true rfl) (D (8, .invokevirtual 97, 3) (mg 5 rfl)) rfl (fun v8 H6 G7 hv8 => ?_)
  obtain ⟨rfl, rfl, rfl⟩ := hv8
  show X k w _ 11 [some (.ref (wA w (t))), none] [.int (if isN B n (tE B n (p)) (0) (24) then 1 else 0)] H1 G2
  refine X_if_ne (tgt := 16) C (D (11, .ifCond .ne 5, 3) (mg 6 rfl)) (by decide) (fun q9 => ?_) (fun q9 => ?_)
  · skip
    have q9 : (isN B n (tE B n (p)) (0) (24)) := bz1.mp q9
    obtain ⟨hlv10, huv10, ev10⟩ := isN_v q9
    have evv10 : H1 t 6 = nI (nV B n (tE B n (p))) := (de5 (q9).1).trans ev10
    refine X_aload_n C 0 (D (16, .aload_n 0, 1) (mg 9 rfl)) rfl rfl ?_
    refine X_get (v := .int (H1 (t) 6)) C (t) 6 (by omega) hst rfl rfl (by decide) inX5 fX5_55 rfl (D (17, .getfield 55, 3) (mg 10 rfl)) rfl ?_
    refine X_ti (y := nI (nV B n (tE B n (p)))) (evv10) ?_
    refine X_istore_n (ls' := [some (.ref (wA w (t))), some (.int (nI (nV B n (tE B n (p)))))]) C 1 (D (20, .istore_n 1, 1) (mg 11 rfl)) rfl (Nat.le_of_ble_eq_true rfl) rfl ?_
    refine X_aload_n C 0 (D (21, .aload_n 0, 1) (mg 12 rfl)) rfl rfl ?_
    refine X_cV (As := []) (st := []) C (post := _) (t) (by omega) hst rfl (cx_X5_advance hw (t := t) (n := n) hX hn (B := B) (p := tE B n (tE B n (p))) (tE_le (by omega)) H1 G2 (((f4 _ _ (by omega))).trans hb) (fun i hi => by rw [f4 _ _ (by omega)]; exact hB i hi) (ae5)) kX5_26 (by decide) (by decide) rfl rfl (Nat.le_of_ble_eq_true rfl) (D (22, .invokevirtual 26, 3) (mg 13 rfl)) rfl (fun v13 H11 G12 hv13 => ?_)
    obtain ⟨rfl, f14, ae15, be15, ce15, de15⟩ := hv13
    have hle15 : tE B n (tE B n (p)) ≤ n := tE_le (by omega)
    have hme15 := cT_le (tT_le B n (tE B n (tE B n (p))))
    show X k w _ 25 [some (.ref (wA w (t))), some (.int (nI (nV B n (tE B n (p)))))] [] H11 G12
    refine X_aload_n C 0 (D (25, .aload_n 0, 1) (mg 14 rfl)) rfl rfl ?_
    refine X_iconst (v := nI (0)) C (D (26, .iconst 0, 1) (mg 15 rfl)) (by decide) ?_
    refine X_iconst (v := nI (4)) C (D (27, .iconst 4, 1) (mg 16 rfl)) (by decide) ?_
    refine X_cV (As := [.int (nI (0)), .int (nI (4))]) (st := []) C (post := _) (t) (by omega) hst rfl (cx_X5_isNumber hw (t := t) hX (B := B) (n := n) (p := tE B n (tE B n (p))) (A := 0) (C := 4) (by decide) H11 G12 (ce15) de15) kX5_97 (by decide) (by decide) rfl rfl (Nat.le_of_ble_eq_true rfl) (D (28, .invokevirtual 97, 3) (mg 17 rfl)) rfl (fun v18 H16 G17 hv18 => ?_)
    obtain ⟨rfl, rfl, rfl⟩ := hv18
    show X k w _ 31 [some (.ref (wA w (t))), some (.int (nI (nV B n (tE B n (p)))))] [.int (if isN B n (tE B n (tE B n (p))) (0) (4) then 1 else 0)] H11 G12
    refine X_if_ne (tgt := 36) C (D (31, .ifCond .ne 5, 3) (mg 18 rfl)) (by decide) (fun q19 => ?_) (fun q19 => ?_)
    · skip
      have q19 : (isN B n (tE B n (tE B n (p))) (0) (4)) := bz1.mp q19
      obtain ⟨hlv20, huv20, ev20⟩ := isN_v q19
      have evv20 : H11 t 6 = nI (nV B n (tE B n (tE B n (p)))) := (de15 (q19).1).trans ev20
      refine X_aload_n C 0 (D (36, .aload_n 0, 1) (mg 21 rfl)) rfl rfl ?_
      refine X_get (v := .ref (wA w (t + 2))) C (t) 1 (by omega) hst rfl rfl (by decide) inX5 fX5_18 rfl (D (37, .getfield 18, 3) (mg 22 rfl)) rfl ?_
      refine X_get (v := .ref (wA w (t + 3))) C (t + 2) 0 (by omega) hN2.2.1 rfl rfl (by decide) inX1 fX5_105 rfl (D (40, .getfield 105, 3) (mg 23 rfl)) rfl ?_
      refine X_iload_n C 1 (D (43, .iload_n 1, 1) (mg 24 rfl)) rfl rfl ?_
      refine X_aload_n C 0 (D (44, .aload_n 0, 1) (mg 25 rfl)) rfl rfl ?_
      refine X_get (v := .int (H11 (t) 6)) C (t) 6 (by omega) hst rfl rfl (by decide) inX5 fX5_55 rfl (D (45, .getfield 55, 3) (mg 26 rfl)) rfl ?_
      refine X_ti (y := nI (nV B n (tE B n (tE B n (p))))) (evv20) ?_
      refine X_iast (j := nV B n (tE B n (p))) C (t + 3) (by omega) hN2.2.2.1 (vp_in_nI (by omega) (by omega)) (D (48, .iastore, 1) (mg 27 rfl)) (nI_clamp (by omega)) ?_
      refine X_aload_n C 0 (D (49, .aload_n 0, 1) (mg 28 rfl)) rfl rfl ?_
      refine X_cV (As := []) (st := []) C (post := _) (t) (by omega) hst rfl (cx_X5_advance hw (t := t) (n := n) hX hn (B := B) (p := tE B n (tE B n (tE B n (p)))) (tE_le (by omega)) (u2 H11 (t + 3) (nV B n (tE B n (p))) (nI (nV B n (tE B n (tE B n (p)))))) G12 (((((u2_p _ _ _ _ (by omega))).trans (f14 _ _ (by omega))).trans (f4 _ _ (by omega))).trans hb) (fun i hi => by rw [u2_ne _ _ _ _ (by omega), f14 _ _ (by omega), f4 _ _ (by omega)]; exact hB i hi) (((u2_p _ _ _ _ (by omega))).trans ae15)) kX5_26 (by decide) (by decide) rfl rfl (Nat.le_of_ble_eq_true rfl) (D (50, .invokevirtual 26, 3) (mg 29 rfl)) rfl (fun v23 H21 G22 hv23 => ?_)
      obtain ⟨rfl, f24, ae25, be25, ce25, de25⟩ := hv23
      have hle25 : tE B n (tE B n (tE B n (p))) ≤ n := tE_le (by omega)
      have hme25 := cT_le (tT_le B n (tE B n (tE B n (tE B n (p)))))
      show X k w _ 53 [some (.ref (wA w (t))), some (.int (nI (nV B n (tE B n (p)))))] [] H21 G22
      refine X_iconst (v := nI (1)) C (D (53, .iconst 1, 1) (mg 30 rfl)) (by decide) ?_
      exact X_zret C (D (54, .ireturn, 1) (mg 31 rfl)) rfl (have hr : pSto B n (tE B n (p)) z = (true, tE B n (tE B n (tE B n (p))), nSto (z) (nV B n (tE B n (p))) (nV B n (tE B n (tE B n (p))))) := (by unfold pSto; exact ((if_pos (by assumption)).trans (if_pos (by assumption)))); pBr_t hr (xC_t hr (fun q i z1 z2 => by rw [f24 _ _ (by omega), u2_ne _ _ _ _ (by omega), f14 _ _ (by omega), f4 _ _ (by omega)]) ⟨(ae25), (be25), (ce25), de25⟩ (rC_k (fun q i z1 z2 => f24 _ _ (by omega)) (rC_sto (rC_k (fun q i z1 z2 => f14 _ _ (by omega)) (rC_k (fun q i z1 z2 => f4 _ _ (by omega)) hrc)))) (nSto_ok hok (by omega))))
    · skip
      have q19 : ¬ (isN B n (tE B n (tE B n (p))) (0) (4)) := bz0.mp q19
      refine X_iconst (v := nI (0)) C (D (34, .iconst 0, 1) (mg 19 rfl)) (by decide) ?_
      exact X_zret C (D (35, .ireturn, 1) (mg 20 rfl)) rfl (have hr : pSto B n (tE B n (p)) z = (false, tE B n (tE B n (p)), z) := (by unfold pSto; exact ((if_pos (by assumption)).trans (if_neg (by assumption)))); pBr_f hr (xC_f hr (fun q i z1 z2 => by rw [f14 _ _ (by omega), f4 _ _ (by omega)]) ⟨(ae15), (be15), (ce15), de15⟩ (rC_at (rC_k (fun q i z1 z2 => f14 _ _ (by omega)) (rC_k (fun q i z1 z2 => f4 _ _ (by omega)) hrc)) hok)))
  · skip
    have q9 : ¬ (isN B n (tE B n (p)) (0) (24)) := bz0.mp q9
    refine X_iconst (v := nI (0)) C (D (14, .iconst 0, 1) (mg 7 rfl)) (by decide) ?_
    exact X_zret C (D (15, .ireturn, 1) (mg 8 rfl)) rfl (have hr : pSto B n (tE B n (p)) z = (false, tE B n (p), z) := (by unfold pSto; exact (if_neg (by assumption))); pBr_f hr (xC_f hr (fun q i z1 z2 => by rw [f4 _ _ (by omega)]) ⟨(ae5), (be5), (ce5), de5⟩ (rC_at (rC_k (fun q i z1 z2 => f4 _ _ (by omega)) hrc) hok)))
set_option maxHeartbeats 4000000 in
set_option maxRecDepth 100000 in
theorem cx_X5_takesSay {l : Launch} {w : Kw} (hw : wOk w) {t n : Nat} (hX : shX w t) (hn : n ≤ 150) {B : Nat → Int32} {p : Nat} (hp : p ≤ n) {z : nS} (h : xI) (g : xJ) (hb : h t 2 = nI n) (hB : ∀ i, i < n → h (t + 1) i = B i) (hk : kT B n p t h) (hrc : rC h (t + 2) z) (hok : nOk z) : Ct l w yX5_takesSay cX5_takesSay 2 (some .boolean) 3 60 [.ref (wA w (t))] h g (pBr (pSay B n (tE B n (p)) z) (xC B n t h (pSay B n (tE B n (p)) z))) := by
  refine Ct_of (ls := [some (.ref (wA w (t))), none]) (by decide) hw (Nat.le_of_ble_eq_true rfl) rfl (fun k hkl C => ?_)
  have C : Cx k w cX5_takesSay RX5 2 (some .boolean) 3 60 := C
  have D := dtX5_takesSay
  subst hkl
  have hX0 := hX
  obtain ⟨htn, hst, hs1, hN2⟩ := hX
  have hX := hX0
  obtain ⟨ht3, ht4, ht5, ht6⟩ := hk
  have hle0 : tE B n p ≤ n := tE_le hp
  have hat0 := rC_at hrc hok
  refine X_aload_n C 0 (D (0, .aload_n 0, 1) (mg 0 rfl)) rfl rfl ?_
  refine X_cV (As := []) (st := []) C (post := _) (t) (by omega) hst rfl (cx_X5_advance hw (t := t) (n := n) hX hn (B := B) (p := tE B n (p)) (tE_le (by omega)) h g (hb) hB (ht3)) kX5_26 (by decide) (by decide) rfl rfl (Nat.le_of_ble_eq_true rfl) (D (1, .invokevirtual 26, 3) (mg 1 rfl)) rfl (fun v3 H1 G2 hv3 => ?_)
  obtain ⟨rfl, f4, ae5, be5, ce5, de5⟩ := hv3
  have hle5 : tE B n (p) ≤ n := tE_le (by omega)
  have hme5 := cT_le (tT_le B n (tE B n (p)))
  show X k w _ 4 [some (.ref (wA w (t))), none] [] H1 G2
  refine X_aload_n C 0 (D (4, .aload_n 0, 1) (mg 2 rfl)) rfl rfl ?_
  refine X_iconst (v := nI (0)) C (D (5, .iconst 0, 1) (mg 3 rfl)) (by decide) ?_
  refine X_bipush (v := nI (24)) C (D (6, .bipush 24, 2) (mg 4 rfl)) (by decide) ?_
  refine X_cV (As := [.int (nI (0)), .int (nI (24))]) (st := []) C (post := _) (t) (by omega) hst rfl (cx_X5_isNumber hw (t := t) hX (B := B) (n := n) (p := tE B n (p)) (A := 0) (C := 24) (by decide) H1 G2 (ce5) de5) kX5_97 (by decide) (by decide) rfl rfl (Nat.le_of_ble_eq_true rfl) (D (8, .invokevirtual 97, 3) (mg 5 rfl)) rfl (fun v8 H6 G7 hv8 => ?_)
  obtain ⟨rfl, rfl, rfl⟩ := hv8
  show X k w _ 11 [some (.ref (wA w (t))), none] [.int (if isN B n (tE B n (p)) (0) (24) then 1 else 0)] H1 G2
  refine X_if_eq (tgt := 28) C (D (11, .ifCond .eq 17, 3) (mg 6 rfl)) (by decide) (fun q9 => ?_) (fun q9 => ?_)
  · skip
    have q9 : ¬ (isN B n (tE B n (p)) (0) (24)) := bz0.mp q9
    refine X_iconst (v := nI (0)) C (D (28, .iconst 0, 1) (mg 13 rfl)) (by decide) ?_
    exact X_zret C (D (29, .ireturn, 1) (mg 14 rfl)) rfl (have hr : pSay B n (tE B n (p)) z = (false, tE B n (p), z) := (by unfold pSay; exact (if_neg (by assumption))); pBr_f hr (xC_f hr (fun q i z1 z2 => by rw [f4 _ _ (by omega)]) ⟨(ae5), (be5), (ce5), de5⟩ (rC_at (rC_k (fun q i z1 z2 => f4 _ _ (by omega)) hrc) hok)))
  · skip
    have q9 : (isN B n (tE B n (p)) (0) (24)) := bz1.mp q9
    obtain ⟨hlv10, huv10, ev10⟩ := isN_v q9
    have evv10 : H1 t 6 = nI (nV B n (tE B n (p))) := (de5 (q9).1).trans ev10
    refine X_aload_n C 0 (D (14, .aload_n 0, 1) (mg 7 rfl)) rfl rfl ?_
    refine X_get (v := .ref (wA w (t + 2))) C (t) 1 (by omega) hst rfl rfl (by decide) inX5 fX5_18 rfl (D (15, .getfield 18, 3) (mg 8 rfl)) rfl ?_
    refine X_aload_n C 0 (D (18, .aload_n 0, 1) (mg 9 rfl)) rfl rfl ?_
    refine X_get (v := .int (H1 (t) 6)) C (t) 6 (by omega) hst rfl rfl (by decide) inX5 fX5_55 rfl (D (19, .getfield 55, 3) (mg 10 rfl)) rfl ?_
    refine X_ti (y := nI (nV B n (tE B n (p)))) (evv10) ?_
    refine X_cV (As := [.int (nI (nV B n (tE B n (p))))]) (st := []) C (post := _) (t + 2) (by omega) hN2.2.1 rfl (ct_X1_liesIn hw (n := t + 2) hN2 (j := nV B n (tE B n (p))) (by omega) H1 G2) kX5_107 (by decide) (by decide) rfl rfl (Nat.le_of_ble_eq_true rfl) (D (22, .invokevirtual 107, 3) (mg 11 rfl)) rfl (fun v13 H11 G12 hv13 => ?_)
    obtain ⟨rfl, rfl, rfl⟩ := hv13
    show X k w _ 25 [some (.ref (wA w (t))), none] [.int (if ¬ H1 (t + 4) (nV B n (tE B n (p))) = (-1 : Int32) then 1 else 0)] H1 G2
    refine X_if_eq (tgt := 30) C (D (25, .ifCond .eq 5, 3) (mg 12 rfl)) (by decide) (fun q14 => ?_) (fun q14 => ?_)
    · skip
      have q14 : ¬ (¬ H1 (t + 4) (nV B n (tE B n (p))) = (-1 : Int32)) := bz0.mp q14
      have hL : z.2.2.2 (nV B n (tE B n (p))) = 0 := (eC_n ((hok).2.2.2 _ (by omega))).mp ((((rC_k (fun q i z1 z2 => f4 _ _ (by omega)) hrc)).2.2.2 _ (by omega)).symm.trans (Classical.not_not.mp q14))
      refine X_aload_n C 0 (D (30, .aload_n 0, 1) (mg 15 rfl)) rfl rfl ?_
      refine X_get (v := .int (H1 (t) 6)) C (t) 6 (by omega) hst rfl rfl (by decide) inX5 fX5_55 rfl (D (31, .getfield 55, 3) (mg 16 rfl)) rfl ?_
      refine X_ti (y := nI (nV B n (tE B n (p)))) (evv10) ?_
      refine X_istore_n (ls' := [some (.ref (wA w (t))), some (.int (nI (nV B n (tE B n (p)))))]) C 1 (D (34, .istore_n 1, 1) (mg 17 rfl)) rfl (Nat.le_of_ble_eq_true rfl) rfl ?_
      refine X_aload_n C 0 (D (35, .aload_n 0, 1) (mg 18 rfl)) rfl rfl ?_
      refine X_cV (As := []) (st := []) C (post := _) (t) (by omega) hst rfl (cx_X5_advance hw (t := t) (n := n) hX hn (B := B) (p := tE B n (tE B n (p))) (tE_le (by omega)) H1 G2 (((f4 _ _ (by omega))).trans hb) (fun i hi => by rw [f4 _ _ (by omega)]; exact hB i hi) (ae5)) kX5_26 (by decide) (by decide) rfl rfl (Nat.le_of_ble_eq_true rfl) (D (36, .invokevirtual 26, 3) (mg 19 rfl)) rfl (fun v17 H15 G16 hv17 => ?_)
      obtain ⟨rfl, f18, ae19, be19, ce19, de19⟩ := hv17
      have hle19 : tE B n (tE B n (p)) ≤ n := tE_le (by omega)
      have hme19 := cT_le (tT_le B n (tE B n (tE B n (p))))
      show X k w _ 39 [some (.ref (wA w (t))), some (.int (nI (nV B n (tE B n (p)))))] [] H15 G16
      refine X_aload_n C 0 (D (39, .aload_n 0, 1) (mg 20 rfl)) rfl rfl ?_
      refine X_iconst (v := nI (0)) C (D (40, .iconst 0, 1) (mg 21 rfl)) (by decide) ?_
      refine X_iconst (v := nI (5)) C (D (41, .iconst 5, 1) (mg 22 rfl)) (by decide) ?_
      refine X_cV (As := [.int (nI (0)), .int (nI (5))]) (st := []) C (post := _) (t) (by omega) hst rfl (cx_X5_isNumber hw (t := t) hX (B := B) (n := n) (p := tE B n (tE B n (p))) (A := 0) (C := 5) (by decide) H15 G16 (ce19) de19) kX5_97 (by decide) (by decide) rfl rfl (Nat.le_of_ble_eq_true rfl) (D (42, .invokevirtual 97, 3) (mg 23 rfl)) rfl (fun v22 H20 G21 hv22 => ?_)
      obtain ⟨rfl, rfl, rfl⟩ := hv22
      show X k w _ 45 [some (.ref (wA w (t))), some (.int (nI (nV B n (tE B n (p)))))] [.int (if isN B n (tE B n (tE B n (p))) (0) (5) then 1 else 0)] H15 G16
      refine X_if_ne (tgt := 50) C (D (45, .ifCond .ne 5, 3) (mg 24 rfl)) (by decide) (fun q23 => ?_) (fun q23 => ?_)
      · skip
        have q23 : (isN B n (tE B n (tE B n (p))) (0) (5)) := bz1.mp q23
        obtain ⟨hlv24, huv24, ev24⟩ := isN_v q23
        have evv24 : H15 t 6 = nI (nV B n (tE B n (tE B n (p)))) := (de19 (q23).1).trans ev24
        refine X_aload_n C 0 (D (50, .aload_n 0, 1) (mg 27 rfl)) rfl rfl ?_
        refine X_get (v := .ref (wA w (t + 2))) C (t) 1 (by omega) hst rfl rfl (by decide) inX5 fX5_18 rfl (D (51, .getfield 18, 3) (mg 28 rfl)) rfl ?_
        refine X_iload_n C 1 (D (54, .iload_n 1, 1) (mg 29 rfl)) rfl rfl ?_
        refine X_aload_n C 0 (D (55, .aload_n 0, 1) (mg 30 rfl)) rfl rfl ?_
        refine X_get (v := .int (H15 (t) 6)) C (t) 6 (by omega) hst rfl rfl (by decide) inX5 fX5_55 rfl (D (56, .getfield 55, 3) (mg 31 rfl)) rfl ?_
        refine X_ti (y := nI (nV B n (tE B n (tE B n (p))))) (evv24) ?_
        refine X_cV (As := [.int (nI (nV B n (tE B n (p)))), .int (nI (nV B n (tE B n (tE B n (p)))))]) (st := []) C (post := _) (t + 2) (by omega) hN2.2.1 rfl (ct_X1_put hw (n := t + 2) hN2 (j := nV B n (tE B n (p))) (by omega) (nI (nV B n (tE B n (tE B n (p))))) H15 G16) kX5_110 (by decide) (by decide) rfl rfl (Nat.le_of_ble_eq_true rfl) (D (59, .invokevirtual 110, 3) (mg 32 rfl)) rfl (fun v27 H25 G26 hv27 => ?_)
        obtain ⟨rfl, rfl, rfl⟩ := hv27
        show X k w _ 62 [some (.ref (wA w (t))), some (.int (nI (nV B n (tE B n (p)))))] [] (u2 H15 (t + 4) (nV B n (tE B n (p))) (nI 1000 * (nI (nV B n (tE B n (tE B n (p))))))) G16
        refine X_aload_n C 0 (D (62, .aload_n 0, 1) (mg 33 rfl)) rfl rfl ?_
        refine X_cV (As := []) (st := []) C (post := _) (t) (by omega) hst rfl (cx_X5_advance hw (t := t) (n := n) hX hn (B := B) (p := tE B n (tE B n (tE B n (p)))) (tE_le (by omega)) (u2 H15 (t + 4) (nV B n (tE B n (p))) (nI 1000 * (nI (nV B n (tE B n (tE B n (p))))))) G16 (((((u2_p _ _ _ _ (by omega))).trans (f18 _ _ (by omega))).trans (f4 _ _ (by omega))).trans hb) (fun i hi => by rw [u2_ne _ _ _ _ (by omega), f18 _ _ (by omega), f4 _ _ (by omega)]; exact hB i hi) (((u2_p _ _ _ _ (by omega))).trans ae19)) kX5_26 (by decide) (by decide) rfl rfl (Nat.le_of_ble_eq_true rfl) (D (63, .invokevirtual 26, 3) (mg 34 rfl)) rfl (fun v30 H28 G29 hv30 => ?_)
        obtain ⟨rfl, f31, ae32, be32, ce32, de32⟩ := hv30
        have hle32 : tE B n (tE B n (tE B n (p))) ≤ n := tE_le (by omega)
        have hme32 := cT_le (tT_le B n (tE B n (tE B n (tE B n (p)))))
        show X k w _ 66 [some (.ref (wA w (t))), some (.int (nI (nV B n (tE B n (p)))))] [] H28 G29
        refine X_iconst (v := nI (1)) C (D (66, .iconst 1, 1) (mg 35 rfl)) (by decide) ?_
        exact X_zret C (D (67, .ireturn, 1) (mg 36 rfl)) rfl (have hr : pSay B n (tE B n (p)) z = (true, tE B n (tE B n (tE B n (p))), nSay (z) (nV B n (tE B n (p))) (nV B n (tE B n (tE B n (p))))) := (by unfold pSay; exact (((if_pos (by assumption)).trans (if_pos (by assumption))).trans (if_pos (by assumption)))); pBr_t hr (xC_t hr (fun q i z1 z2 => by rw [f31 _ _ (by omega), u2_ne _ _ _ _ (by omega), f18 _ _ (by omega), f4 _ _ (by omega)]) ⟨(ae32), (be32), (ce32), de32⟩ (rC_k (fun q i z1 z2 => f31 _ _ (by omega)) (rC_say (rC_k (fun q i z1 z2 => f18 _ _ (by omega)) (rC_k (fun q i z1 z2 => f4 _ _ (by omega)) hrc)) (by omega))) (nSay_ok hok (by omega))))
      · skip
        have q23 : ¬ (isN B n (tE B n (tE B n (p))) (0) (5)) := bz0.mp q23
        refine X_iconst (v := nI (0)) C (D (48, .iconst 0, 1) (mg 25 rfl)) (by decide) ?_
        exact X_zret C (D (49, .ireturn, 1) (mg 26 rfl)) rfl (have hr : pSay B n (tE B n (p)) z = (false, tE B n (tE B n (p)), z) := (by unfold pSay; exact (((if_pos (by assumption)).trans (if_pos (by assumption))).trans (if_neg (by assumption)))); pBr_f hr (xC_f hr (fun q i z1 z2 => by rw [f18 _ _ (by omega), f4 _ _ (by omega)]) ⟨(ae19), (be19), (ce19), de19⟩ (rC_at (rC_k (fun q i z1 z2 => f18 _ _ (by omega)) (rC_k (fun q i z1 z2 => f4 _ _ (by omega)) hrc)) hok)))
    · skip
      have q14 : (¬ H1 (t + 4) (nV B n (tE B n (p))) = (-1 : Int32)) := bz1.mp q14
      have hL : ¬ z.2.2.2 (nV B n (tE B n (p))) = 0 := fun u_ => q14 ((((rC_k (fun q i z1 z2 => f4 _ _ (by omega)) hrc)).2.2.2 _ (by omega)).trans ((eC_n ((hok).2.2.2 _ (by omega))).mpr u_))
      refine X_iconst (v := nI (0)) C (D (28, .iconst 0, 1) (mg 13 rfl)) (by decide) ?_
      exact X_zret C (D (29, .ireturn, 1) (mg 14 rfl)) rfl (have hr : pSay B n (tE B n (p)) z = (false, tE B n (p), z) := (by unfold pSay; exact ((if_pos (by assumption)).trans (if_neg (by assumption)))); pBr_f hr (xC_f hr (fun q i z1 z2 => by rw [f4 _ _ (by omega)]) ⟨(ae5), (be5), (ce5), de5⟩ (rC_at (rC_k (fun q i z1 z2 => f4 _ _ (by omega)) hrc) hok)))
theorem bq_c {j i c : Nat} (hj : j < 25) (hi : i < 4) (hc : c < 25) (e : nI c = cbs j (nI i)) : bsN j i < 25 ∧ c = bsN j i := by
  rw [cbs_n j hj i hi] at e
  by_cases q : bsN j i < 25
  · rw [if_pos q] at e
    exact ⟨q, (nI_eq (by omega) (by omega)).mp e⟩
  · rw [if_neg q] at e
    exact absurd e (nI_nm (by omega))
theorem bq_m {j i : Nat} (hj : j < 25) (hi : i < 4) (e : (-1 : Int32) = cbs j (nI i)) : ¬ bsN j i < 25 := by
  rw [cbs_n j hj i hi] at e
  intro q
  rw [if_pos q] at e
  exact nI_nm (by omega) e.symm
theorem pDrg_s {B : Nat → Int32} {n f p : Nat} {z : nS} (h : isN B n p 0 3) (h2 : bsN z.2.1 (nV B n p) < 25) : pDrg B n (f + 1) p z = pDrg B n f (tE B n p) (nStp z (bsN z.2.1 (nV B n p))) := by
  show (if isN B n p 0 3 then _ else _) = _
  rw [if_pos h, if_pos h2]
theorem pDrg_x {B : Nat → Int32} {n f p : Nat} {z : nS} (h : isN B n p 0 3) (h2 : ¬ bsN z.2.1 (nV B n p) < 25) : pDrg B n (f + 1) p z = (false, p, z) := by
  show (if isN B n p 0 3 then _ else _) = _
  rw [if_pos h, if_neg h2]
theorem pDrg_o {B : Nat → Int32} {n f p : Nat} {z : nS} (h : ¬ isN B n p 0 3) : pDrg B n (f + 1) p z = (true, p, z) := by
  show (if isN B n p 0 3 then _ else _) = _
  rw [if_neg h]
theorem dr_n {B : Nat → Int32} {n p0 p1 j : Nat} {z z1 : nS} (h7 : j = 0 → p1 = p0 ∧ z1 = z) (h8 : 0 < j → isN B n p0 0 3) (q : isN B n p1 0 3) : isN B n p0 0 3 := by
  rcases Nat.eq_zero_or_pos j with w | w
  · rw [← (h7 w).1]; exact q
  · exact h8 w
theorem dr_s {B : Nat → Int32} {n p0 p1 j : Nat} {z z1 : nS} (hj : j < 9) (e : pDrg B n (9 - j) p1 z1 = pDrg B n 9 p0 z) (q : isN B n p1 0 3) (q2 : bsN z1.2.1 (nV B n p1) < 25) : pDrg B n (9 - (j + 1)) (tE B n p1) (nStp z1 (bsN z1.2.1 (nV B n p1))) = pDrg B n 9 p0 z := by
  rw [← e, show 9 - j = (9 - (j + 1)) + 1 by omega, pDrg_s q q2]
theorem dr_x {B : Nat → Int32} {n p0 p1 j : Nat} {z z1 : nS} (hj : j < 9) (e : pDrg B n (9 - j) p1 z1 = pDrg B n 9 p0 z) (h7 : j = 0 → p1 = p0 ∧ z1 = z) (h8 : 0 < j → isN B n p0 0 3) (q : isN B n p1 0 3) (q2 : ¬ bsN z1.2.1 (nV B n p1) < 25) : pDra B n p0 z = (false, p1, z1) := by
  unfold pDra
  rw [if_pos (dr_n h7 h8 q), ← e, show 9 - j = (9 - (j + 1)) + 1 by omega, pDrg_x q q2]
theorem dr_e {B : Nat → Int32} {n p0 p1 j : Nat} {z z1 : nS} (h0 : 0 < j) (hj : j ≤ 9) (e : pDrg B n (9 - j) p1 z1 = pDrg B n 9 p0 z) (h8 : 0 < j → isN B n p0 0 3) (q : 9 ≤ j ∨ ¬ isN B n p1 0 3) : pDra B n p0 z = (true, p1, z1) := by
  unfold pDra
  rw [if_pos (h8 h0), ← e]
  by_cases w : j = 9
  · subst w; rfl
  · rw [show 9 - j = (9 - (j + 1)) + 1 by omega]
    rcases q with q | q
    · omega
    · exact pDrg_o q
theorem dr_0 {B : Nat → Int32} {n p0 p1 j : Nat} {z z1 : nS} (hj : j = 0) (h7 : j = 0 → p1 = p0 ∧ z1 = z) (q : ¬ isN B n p1 0 3) : pDra B n p0 z = (false, p1, z1) := by
  obtain ⟨rfl, rfl⟩ := h7 hj
  unfold pDra
  rw [if_neg q]
set_option maxHeartbeats 4000000 in
set_option maxRecDepth 100000 in
theorem cx_X5_takesDrag {l : Launch} {w : Kw} (hw : wOk w) {t n : Nat} (hX : shX w t) (hn : n ≤ 150) {B : Nat → Int32} {p : Nat} (hp : p ≤ n) {z : nS} (h : xI) (g : xJ) (hb : h t 2 = nI n) (hB : ∀ i, i < n → h (t + 1) i = B i) (hk : kT B n p t h) (hrc : rC h (t + 2) z) (hok : nOk z) : Ct l w yX5_takesDrag cX5_takesDrag 3 (some .boolean) 3 71 [.ref (wA w (t))] h g (pBr (pDra B n (tE B n (p)) z) (xC B n t h (pDra B n (tE B n (p)) z))) := by
  refine Ct_of (ls := [some (.ref (wA w (t))), none, none]) (by decide) hw (Nat.le_of_ble_eq_true rfl) rfl (fun k hkl C => ?_)
  have C : Cx k w cX5_takesDrag RX5 3 (some .boolean) 3 71 := C
  have D := dtX5_takesDrag
  subst hkl
  have hX0 := hX
  obtain ⟨htn, hst, hs1, hN2⟩ := hX
  have hX := hX0
  obtain ⟨ht3, ht4, ht5, ht6⟩ := hk
  have hle0 : tE B n p ≤ n := tE_le hp
  have hat0 := rC_at hrc hok
  refine X_iconst (v := nI (0)) C (D (0, .iconst 0, 1) (mg 0 rfl)) (by decide) ?_
  refine X_istore_n (ls' := [some (.ref (wA w (t))), some (.int (nI (0))), none]) C 1 (D (1, .istore_n 1, 1) (mg 1 rfl)) rfl (Nat.le_of_ble_eq_true rfl) rfl ?_
  refine X_aload_n C 0 (D (2, .aload_n 0, 1) (mg 2 rfl)) rfl rfl ?_
  refine X_cV (As := []) (st := []) C (post := _) (t) (by omega) hst rfl (cx_X5_advance hw (t := t) (n := n) hX hn (B := B) (p := tE B n (p)) (tE_le (by omega)) h g (hb) hB (ht3)) kX5_26 (by decide) (by decide) rfl rfl (Nat.le_of_ble_eq_true rfl) (D (3, .invokevirtual 26, 3) (mg 3 rfl)) rfl (fun v3 H1 G2 hv3 => ?_)
  obtain ⟨rfl, f4, ae5, be5, ce5, de5⟩ := hv3
  have hle5 : tE B n (p) ≤ n := tE_le (by omega)
  have hme5 := cT_le (tT_le B n (tE B n (p)))
  show X k w _ 6 [some (.ref (wA w (t))), some (.int (nI (0))), none] [] H1 G2
  have lp6 : ∀ (nn6 : Nat) (p1 : Nat) (z1 : nS) (j : Nat) (hp6 : xI) (gp6 : xJ), (j ≤ 9) → (p1 ≤ n) → (tF t h hp6) → (kT B n p1 t hp6) → (rC hp6 (t + 2) z1) → (nOk z1) → (pDrg B n (9 - j) p1 z1 = pDrg B n 9 (tE B n (p)) z) → (j = 0 → p1 = tE B n (p) ∧ z1 = z) → (0 < j → isN B n (tE B n (p)) 0 3) → 10 - j ≤ nn6 → X k w (Zq k w (pBr (pDra B n (tE B n (p)) z) (xC B n t h (pDra B n (tE B n (p)) z)))) 6 [some (.ref (wA w (t))), some (.int (nI (j))), none] [] hp6 gp6 := by
    intro nn6
    induction nn6 with
    | zero => intro p1 z1 j hp6 gp6 hc6_0 hc6_1 hc6_2 hc6_3 hc6_4 hc6_5 hc6_6 hc6_7 hc6_8 hz; exact absurd hz (by omega)
    | succ nn6 ih6 =>
      intro p1 z1 j hp6 gp6 hc6_0 hc6_1 hc6_2 hc6_3 hc6_4 hc6_5 hc6_6 hc6_7 hc6_8 hz6
      obtain ⟨ae6, be6, ce6, de6⟩ := hc6_3
      have hme6 := cT_le (tT_le B n (p1))
      have hae6 := (hc6_5).2.1
      refine X_iload_n C 1 (D (6, .iload_n 1, 1) (mg 4 rfl)) rfl rfl ?_
      refine X_bipush (v := nI (9)) C (D (7, .bipush 9, 2) (mg 5 rfl)) (by decide) ?_
      refine X_icmp_ge (tgt := 61) C (D (9, .if_icmp .ge 52, 3) (mg 6 rfl)) (by decide) (fun q7 => ?_) (fun q7 => ?_)
      · skip
        have q7 : (j) ≥ (9) := by have z := (nI_leI (a := (9)) (b := (j)) (by omega) (by omega)).mp q7; omega
        refine X_iload_n C 1 (D (61, .iload_n 1, 1) (mg 32 rfl)) rfl rfl ?_
        refine X_if_le (tgt := 69) C (D (62, .ifCond .le 7, 3) (mg 33 rfl)) (by decide) (fun q8 => ?_) (fun q8 => ?_)
        · skip
          have q8 : (j) ≤ (0) := by have z := (nI_leI (a := (j)) (b := (0)) (by omega) (by omega)).mp q8; omega
          refine X_iconst (v := nI (0)) C (D (69, .iconst 0, 1) (mg 36 rfl)) (by decide) ?_
          exact X_zret C (D (70, .ireturn, 1) (mg 37 rfl)) rfl (by first | exact False.elim (by omega) | exact (have hr : pDra B n (tE B n (p)) z = (false, p1, z1) := dr_0 (by omega) hc6_7 (by assumption); pBr_f hr (xC_f hr hc6_2 ⟨(ae6), (be6), (ce6), de6⟩ (rC_at hc6_4 hc6_5))))
        · skip
          have q8 : (j) > (0) := by have z : ¬ ((j) ≤ (0)) := fun u => q8 ((nI_leI (a := (j)) (b := (0)) (by omega) (by omega)).mpr u); omega
          refine X_iconst (v := nI (1)) C (D (65, .iconst 1, 1) (mg 34 rfl)) (by decide) ?_
          refine X_goto (tgt := 70) C (D (66, .goto 4, 3) (mg 35 rfl)) (by decide) ?_
          exact X_zret C (D (70, .ireturn, 1) (mg 37 rfl)) rfl (have hr : pDra B n (tE B n (p)) z = (true, p1, z1) := dr_e (by omega) (by omega) hc6_6 hc6_8 (by first | exact Or.inr (by assumption) | exact Or.inl (by omega)); pBr_t hr (xC_t hr hc6_2 ⟨(ae6), (be6), (ce6), de6⟩ hc6_4 hc6_5))
      · skip
        have q7 : (j) < (9) := by have z : ¬ ((9) ≤ (j)) := fun u => q7 ((nI_leI (a := (9)) (b := (j)) (by omega) (by omega)).mpr u); omega
        refine X_aload_n C 0 (D (12, .aload_n 0, 1) (mg 7 rfl)) rfl rfl ?_
        refine X_iconst (v := nI (0)) C (D (13, .iconst 0, 1) (mg 8 rfl)) (by decide) ?_
        refine X_iconst (v := nI (3)) C (D (14, .iconst 3, 1) (mg 9 rfl)) (by decide) ?_
        refine X_cV (As := [.int (nI (0)), .int (nI (3))]) (st := []) C (post := _) (t) (by omega) hst rfl (cx_X5_isNumber hw (t := t) hX (B := B) (n := n) (p := p1) (A := 0) (C := 3) (by decide) hp6 gp6 (ce6) de6) kX5_97 (by decide) (by decide) rfl rfl (Nat.le_of_ble_eq_true rfl) (D (15, .invokevirtual 97, 3) (mg 10 rfl)) rfl (fun v11 H9 G10 hv11 => ?_)
        obtain ⟨rfl, rfl, rfl⟩ := hv11
        show X k w _ 18 [some (.ref (wA w (t))), some (.int (nI (j))), none] [.int (if isN B n (p1) (0) (3) then 1 else 0)] hp6 gp6
        refine X_if_eq (tgt := 61) C (D (18, .ifCond .eq 43, 3) (mg 11 rfl)) (by decide) (fun q12 => ?_) (fun q12 => ?_)
        · skip
          have q12 : ¬ (isN B n (p1) (0) (3)) := bz0.mp q12
          refine X_iload_n C 1 (D (61, .iload_n 1, 1) (mg 32 rfl)) rfl rfl ?_
          refine X_if_le (tgt := 69) C (D (62, .ifCond .le 7, 3) (mg 33 rfl)) (by decide) (fun q13 => ?_) (fun q13 => ?_)
          · skip
            have q13 : (j) ≤ (0) := by have z := (nI_leI (a := (j)) (b := (0)) (by omega) (by omega)).mp q13; omega
            refine X_iconst (v := nI (0)) C (D (69, .iconst 0, 1) (mg 36 rfl)) (by decide) ?_
            exact X_zret C (D (70, .ireturn, 1) (mg 37 rfl)) rfl (by first | exact False.elim (by omega) | exact (have hr : pDra B n (tE B n (p)) z = (false, p1, z1) := dr_0 (by omega) hc6_7 (by assumption); pBr_f hr (xC_f hr hc6_2 ⟨(ae6), (be6), (ce6), de6⟩ (rC_at hc6_4 hc6_5))))
          · skip
            have q13 : (j) > (0) := by have z : ¬ ((j) ≤ (0)) := fun u => q13 ((nI_leI (a := (j)) (b := (0)) (by omega) (by omega)).mpr u); omega
            refine X_iconst (v := nI (1)) C (D (65, .iconst 1, 1) (mg 34 rfl)) (by decide) ?_
            refine X_goto (tgt := 70) C (D (66, .goto 4, 3) (mg 35 rfl)) (by decide) ?_
            exact X_zret C (D (70, .ireturn, 1) (mg 37 rfl)) rfl (have hr : pDra B n (tE B n (p)) z = (true, p1, z1) := dr_e (by omega) (by omega) hc6_6 hc6_8 (by first | exact Or.inr (by assumption) | exact Or.inl (by omega)); pBr_t hr (xC_t hr hc6_2 ⟨(ae6), (be6), (ce6), de6⟩ hc6_4 hc6_5))
        · skip
          have q12 : (isN B n (p1) (0) (3)) := bz1.mp q12
          obtain ⟨hlv14, huv14, ev14⟩ := isN_v q12
          have evv14 : hp6 t 6 = nI (nV B n (p1)) := (de6 (q12).1).trans ev14
          refine X_aload_n C 0 (D (21, .aload_n 0, 1) (mg 12 rfl)) rfl rfl ?_
          refine X_get (v := .ref (wA w (t + 2))) C (t) 1 (by omega) hst rfl rfl (by decide) inX5 fX5_18 rfl (D (22, .getfield 18, 3) (mg 13 rfl)) rfl ?_
          refine X_get (v := .int (hp6 (t + 2) 3)) C (t + 2) 3 (by omega) hN2.2.1 rfl rfl (by decide) inX1 fX5_113 rfl (D (25, .getfield 113, 3) (mg 14 rfl)) rfl ?_
          refine X_ti (y := nI ((z1).2.1)) ((hc6_4).2.1) ?_
          refine X_aload_n C 0 (D (28, .aload_n 0, 1) (mg 15 rfl)) rfl rfl ?_
          refine X_get (v := .int (hp6 (t) 6)) C (t) 6 (by omega) hst rfl rfl (by decide) inX5 fX5_55 rfl (D (29, .getfield 55, 3) (mg 16 rfl)) rfl ?_
          refine X_ti (y := nI (nV B n (p1))) (evv14) ?_
          refine X_cN (As := [.int (nI ((z1).2.1)), .int (nI (nV B n (p1)))]) (st := []) C (post := _) (ct_X7_beside hw (j := (z1).2.1) (by omega) (nI (nV B n (p1))) hp6 gp6) kX5_116 (by decide) (by decide) rfl rfl (Nat.le_of_ble_eq_true rfl) (D (32, .invokestatic 116, 3) (mg 17 rfl)) rfl (fun v17 H15 G16 hv17 => ?_)
          obtain ⟨⟨y18, rfl, hy18, ey18⟩, rfl, rfl⟩ := hv17
          show X k w _ 35 [some (.ref (wA w (t))), some (.int (nI (j))), none] [.int (y18)] hp6 gp6
          refine X_istore_n (ls' := [some (.ref (wA w (t))), some (.int (nI (j))), some (.int (y18))]) C 2 (D (35, .istore_n 2, 1) (mg 18 rfl)) rfl (Nat.le_of_ble_eq_true rfl) rfl ?_
          refine X_iload_n C 2 (D (36, .iload_n 2, 1) (mg 19 rfl)) rfl rfl ?_
          refine X_iconst (v := (-1 : Int32)) C (D (37, .iconst (-1), 1) (mg 20 rfl)) (by decide) ?_
          refine X_icmp_ne (tgt := 43) C (D (38, .if_icmp .ne 5, 3) (mg 21 rfl)) (by decide) (fun q19 => ?_) (fun q19 => ?_)
          · skip
            obtain ⟨c20, hc20, rfl⟩ := hy18.resolve_left q19
            obtain ⟨hbs, rfl⟩ := bq_c (j := (z1).2.1) (i := nV B n (p1)) (by omega) (by omega) hc20 ey18
            refine X_aload_n C 0 (D (43, .aload_n 0, 1) (mg 24 rfl)) rfl rfl ?_
            refine X_get (v := .ref (wA w (t + 2))) C (t) 1 (by omega) hst rfl rfl (by decide) inX5 fX5_18 rfl (D (44, .getfield 18, 3) (mg 25 rfl)) rfl ?_
            refine X_iload_n C 2 (D (47, .iload_n 2, 1) (mg 26 rfl)) rfl rfl ?_
            refine X_cV (As := [.int (nI ((bsN ((z1).2.1) (nV B n (p1)))))]) (st := []) C (post := _) (t + 2) (by omega) hN2.2.1 rfl (ct_X1_stepTo hw (n := t + 2) hN2 (j := (bsN ((z1).2.1) (nV B n (p1)))) (by omega) hp6 gp6) kX5_120 (by decide) (by decide) rfl rfl (Nat.le_of_ble_eq_true rfl) (D (48, .invokevirtual 120, 3) (mg 27 rfl)) rfl (fun v23 H21 G22 hv23 => ?_)
            obtain ⟨rfl, rfl, rfl⟩ := hv23
            show X k w _ 51 [some (.ref (wA w (t))), some (.int (nI (j))), some (.int (nI ((bsN ((z1).2.1) (nV B n (p1))))))] [] (csH hp6 (t + 2) ((bsN ((z1).2.1) (nV B n (p1))))) gp6
            refine X_aload_n C 0 (D (51, .aload_n 0, 1) (mg 28 rfl)) rfl rfl ?_
            refine X_cV (As := []) (st := []) C (post := _) (t) (by omega) hst rfl (cx_X5_advance hw (t := t) (n := n) hX hn (B := B) (p := tE B n (p1)) (tE_le (by omega)) (csH hp6 (t + 2) ((bsN ((z1).2.1) (nV B n (p1))))) gp6 (((csH_ne _ _ _ (by omega))).trans ((hc6_2 _ _ (by omega) (by omega)).trans hb)) (fun i hi => by rw [csH_ne _ _ _ (by omega)]; exact (fun i hi => (hc6_2 _ _ (by omega) (by omega)).trans (hB i hi)) i hi) (((csH_ne _ _ _ (by omega))).trans ae6)) kX5_26 (by decide) (by decide) rfl rfl (Nat.le_of_ble_eq_true rfl) (D (52, .invokevirtual 26, 3) (mg 29 rfl)) rfl (fun v26 H24 G25 hv26 => ?_)
            obtain ⟨rfl, f27, ae28, be28, ce28, de28⟩ := hv26
            have hle28 : tE B n (p1) ≤ n := tE_le (by omega)
            have hme28 := cT_le (tT_le B n (tE B n (p1)))
            show X k w _ 55 [some (.ref (wA w (t))), some (.int (nI (j))), some (.int (nI ((bsN ((z1).2.1) (nV B n (p1))))))] [] H24 G25
            refine X_iinc (v := nI (j + 1)) (ls' := [some (.ref (wA w (t))), some (.int (nI (j + 1))), some (.int (nI ((bsN ((z1).2.1) (nV B n (p1))))))]) C (D (55, .iinc 1 1, 3) (mg 30 rfl)) rfl (nI_add (j) 1) rfl ?_
            refine X_goto (tgt := 6) C (D (58, .goto (-52), 3) (mg 31 rfl)) (by decide) ?_
            refine X_los (ls' := [some (.ref (wA w (t))), some (.int (nI (j + 1))), none]) (by simp [lsub]) ?_
            refine X_eq (ls' := [some (.ref (wA w (t))), some (.int (nI (j + 1))), none]) (st' := []) (h' := H24) (g' := G25) rfl rfl rfl rfl ?_
            exact ih6 (tE B n (p1)) (nStp (z1) (bsN ((z1).2.1) (nV B n (p1)))) (j + 1) (H24) (G25) (by omega) (by omega) (fun q i z1 z2 => by rw [f27 _ _ (by omega), csH_ne _ _ _ (by omega)]; exact hc6_2 q i z1 z2) ⟨(ae28), (be28), (ce28), de28⟩ (rC_k (fun q i z1 z2 => f27 _ _ (by omega)) (rC_stp hc6_4 hc6_5 (by omega))) (nStp_ok hc6_5 (by omega)) (dr_s (by omega) hc6_6 (by assumption) (by assumption)) (fun u_ => absurd u_ (by omega)) (fun _ => dr_n hc6_7 hc6_8 (by assumption)) (by omega)
          · skip
            subst q19
            refine X_iconst (v := nI (0)) C (D (41, .iconst 0, 1) (mg 22 rfl)) (by decide) ?_
            exact X_zret C (D (42, .ireturn, 1) (mg 23 rfl)) rfl (have hr : pDra B n (tE B n (p)) z = (false, p1, z1) := dr_x (by omega) hc6_6 hc6_7 hc6_8 (by assumption) (bq_m (by omega) (by omega) (by assumption)); pBr_f hr (xC_f hr hc6_2 ⟨(ae6), (be6), (ce6), de6⟩ (rC_at hc6_4 hc6_5)))
  refine X_eq (ls' := [some (.ref (wA w (t))), some (.int (nI (0))), none]) (st' := []) (h' := H1) (g' := G2) rfl rfl rfl rfl ?_
  exact lp6 _ (tE B n (p)) (z) (0) (H1) (G2) (by omega) (by omega) (fun q i z1 z2 => by rw [f4 _ _ (by omega)]) ⟨(ae5), (be5), (ce5), de5⟩ (rC_k (fun q i z1 z2 => f4 _ _ (by omega)) hrc) hok rfl (fun _ => ⟨rfl, rfl⟩) (fun u_ => absurd u_ (by omega)) (Nat.le_refl _)
set_option maxHeartbeats 4000000 in
set_option maxRecDepth 100000 in
theorem cx_X5_takesWeeks {l : Launch} {w : Kw} (hw : wOk w) {t n : Nat} (hX : shX w t) (hn : n ≤ 150) {B : Nat → Int32} {p : Nat} (hp : p ≤ n) {z : nS} (h : xI) (g : xJ) (hb : h t 2 = nI n) (hB : ∀ i, i < n → h (t + 1) i = B i) (hk : kT B n p t h) (hrc : rC h (t + 2) z) (hok : nOk z) : Ct l w yX5_takesWeeks cX5_takesWeeks 3 (some .boolean) 3 63 [.ref (wA w (t))] h g (pBr (pWee B n (tE B n (p)) z) (xC B n t h (pWee B n (tE B n (p)) z))) := by
  refine Ct_of (ls := [some (.ref (wA w (t))), none, none]) (by decide) hw (Nat.le_of_ble_eq_true rfl) rfl (fun k hkl C => ?_)
  have C : Cx k w cX5_takesWeeks RX5 3 (some .boolean) 3 63 := C
  have D := dtX5_takesWeeks
  subst hkl
  have hX0 := hX
  obtain ⟨htn, hst, hs1, hN2⟩ := hX
  have hX := hX0
  obtain ⟨ht3, ht4, ht5, ht6⟩ := hk
  have hle0 : tE B n p ≤ n := tE_le hp
  have hat0 := rC_at hrc hok
  refine X_aload_n C 0 (D (0, .aload_n 0, 1) (mg 0 rfl)) rfl rfl ?_
  refine X_cV (As := []) (st := []) C (post := _) (t) (by omega) hst rfl (cx_X5_advance hw (t := t) (n := n) hX hn (B := B) (p := tE B n (p)) (tE_le (by omega)) h g (hb) hB (ht3)) kX5_26 (by decide) (by decide) rfl rfl (Nat.le_of_ble_eq_true rfl) (D (1, .invokevirtual 26, 3) (mg 1 rfl)) rfl (fun v3 H1 G2 hv3 => ?_)
  obtain ⟨rfl, f4, ae5, be5, ce5, de5⟩ := hv3
  have hle5 : tE B n (p) ≤ n := tE_le (by omega)
  have hme5 := cT_le (tT_le B n (tE B n (p)))
  show X k w _ 4 [some (.ref (wA w (t))), none, none] [] H1 G2
  refine X_aload_n C 0 (D (4, .aload_n 0, 1) (mg 2 rfl)) rfl rfl ?_
  refine X_iconst (v := nI (1)) C (D (5, .iconst 1, 1) (mg 3 rfl)) (by decide) ?_
  refine X_bipush (v := nI (99)) C (D (6, .bipush 99, 2) (mg 4 rfl)) (by decide) ?_
  refine X_cV (As := [.int (nI (1)), .int (nI (99))]) (st := []) C (post := _) (t) (by omega) hst rfl (cx_X5_isNumber hw (t := t) hX (B := B) (n := n) (p := tE B n (p)) (A := 1) (C := 99) (by decide) H1 G2 (ce5) de5) kX5_97 (by decide) (by decide) rfl rfl (Nat.le_of_ble_eq_true rfl) (D (8, .invokevirtual 97, 3) (mg 5 rfl)) rfl (fun v8 H6 G7 hv8 => ?_)
  obtain ⟨rfl, rfl, rfl⟩ := hv8
  show X k w _ 11 [some (.ref (wA w (t))), none, none] [.int (if isN B n (tE B n (p)) (1) (99) then 1 else 0)] H1 G2
  refine X_if_ne (tgt := 16) C (D (11, .ifCond .ne 5, 3) (mg 6 rfl)) (by decide) (fun q9 => ?_) (fun q9 => ?_)
  · skip
    have q9 : (isN B n (tE B n (p)) (1) (99)) := bz1.mp q9
    obtain ⟨hlv10, huv10, ev10⟩ := isN_v q9
    have evv10 : H1 t 6 = nI (nV B n (tE B n (p))) := (de5 (q9).1).trans ev10
    refine X_aload_n C 0 (D (16, .aload_n 0, 1) (mg 9 rfl)) rfl rfl ?_
    refine X_get (v := .int (H1 (t) 6)) C (t) 6 (by omega) hst rfl rfl (by decide) inX5 fX5_55 rfl (D (17, .getfield 55, 3) (mg 10 rfl)) rfl ?_
    refine X_ti (y := nI (nV B n (tE B n (p)))) (evv10) ?_
    refine X_istore_n (ls' := [some (.ref (wA w (t))), some (.int (nI (nV B n (tE B n (p))))), none]) C 1 (D (20, .istore_n 1, 1) (mg 11 rfl)) rfl (Nat.le_of_ble_eq_true rfl) rfl ?_
    refine X_iconst (v := nI (0)) C (D (21, .iconst 0, 1) (mg 12 rfl)) (by decide) ?_
    refine X_istore_n (ls' := [some (.ref (wA w (t))), some (.int (nI (nV B n (tE B n (p))))), some (.int (nI (0)))]) C 2 (D (22, .istore_n 2, 1) (mg 13 rfl)) rfl (Nat.le_of_ble_eq_true rfl) rfl ?_
    have lp23 : ∀ (nn23 : Nat) (j : Nat) (hp23 : xI) (gp23 : xJ), (j ≤ nV B n (tE B n (p))) → (tF t h hp23) → (kT B n (tE B n (p)) t hp23) → (rC hp23 (t + 2) (nWks j z)) → (nOk (nWks j z)) → 100 - j ≤ nn23 → X k w (Zq k w (pBr (pWee B n (tE B n (p)) z) (xC B n t h (pWee B n (tE B n (p)) z)))) 23 [some (.ref (wA w (t))), some (.int (nI (nV B n (tE B n (p))))), some (.int (nI (j)))] [] hp23 gp23 := by
      intro nn23
      induction nn23 with
      | zero => intro j hp23 gp23 hc23_0 hc23_1 hc23_2 hc23_3 hc23_4 hz; exact absurd hz (by omega)
      | succ nn23 ih23 =>
        intro j hp23 gp23 hc23_0 hc23_1 hc23_2 hc23_3 hc23_4 hz23
        obtain ⟨ae11, be11, ce11, de11⟩ := hc23_2
        have hme11 := cT_le (tT_le B n (tE B n (p)))
        have hae11 := (hc23_4).2.1
        refine X_iload_n C 2 (D (23, .iload_n 2, 1) (mg 14 rfl)) rfl rfl ?_
        refine X_iload_n C 1 (D (24, .iload_n 1, 1) (mg 15 rfl)) rfl rfl ?_
        refine X_icmp_ge (tgt := 41) C (D (25, .if_icmp .ge 16, 3) (mg 16 rfl)) (by decide) (fun q12 => ?_) (fun q12 => ?_)
        · skip
          have q12 : (j) ≥ (nV B n (tE B n (p))) := by have z := (nI_leI (a := (nV B n (tE B n (p)))) (b := (j)) (by omega) (by omega)).mp q12; omega
          have ej : j = nV B n (tE B n (p)) := by omega
          refine X_aload_n C 0 (D (41, .aload_n 0, 1) (mg 22 rfl)) rfl rfl ?_
          refine X_cV (As := []) (st := []) C (post := _) (t) (by omega) hst rfl (cx_X5_advance hw (t := t) (n := n) hX hn (B := B) (p := tE B n (tE B n (p))) (tE_le (by omega)) hp23 gp23 (((hc23_1 _ _ (by omega) (by omega)).trans hb)) (fun i hi => (hc23_1 _ _ (by omega) (by omega)).trans (hB i hi)) (ae11)) kX5_26 (by decide) (by decide) rfl rfl (Nat.le_of_ble_eq_true rfl) (D (42, .invokevirtual 26, 3) (mg 23 rfl)) rfl (fun v15 H13 G14 hv15 => ?_)
          obtain ⟨rfl, f16, ae17, be17, ce17, de17⟩ := hv15
          have hle17 : tE B n (tE B n (p)) ≤ n := tE_le (by omega)
          have hme17 := cT_le (tT_le B n (tE B n (tE B n (p))))
          show X k w _ 45 [some (.ref (wA w (t))), some (.int (nI (nV B n (tE B n (p))))), some (.int (nI (j)))] [] H13 G14
          refine X_iconst (v := nI (1)) C (D (45, .iconst 1, 1) (mg 24 rfl)) (by decide) ?_
          exact X_zret C (D (46, .ireturn, 1) (mg 25 rfl)) rfl (have hr : pWee B n (tE B n (p)) z = (true, tE B n (tE B n (p)), nWks j z) := (by unfold pWee; rw [if_pos (by assumption), ← ej]); pBr_t hr (xC_t hr (fun q i z1 z2 => by rw [f16 _ _ (by omega)]; exact hc23_1 q i z1 z2) ⟨(ae17), (be17), (ce17), de17⟩ (rC_k (fun q i z1 z2 => f16 _ _ (by omega)) hc23_3) hc23_4))
        · skip
          have q12 : (j) < (nV B n (tE B n (p))) := by have z : ¬ ((nV B n (tE B n (p))) ≤ (j)) := fun u => q12 ((nI_leI (a := (nV B n (tE B n (p)))) (b := (j)) (by omega) (by omega)).mpr u); omega
          refine X_aload_n C 0 (D (28, .aload_n 0, 1) (mg 17 rfl)) rfl rfl ?_
          refine X_get (v := .ref (wA w (t + 2))) C (t) 1 (by omega) hst rfl rfl (by decide) inX5 fX5_18 rfl (D (29, .getfield 18, 3) (mg 18 rfl)) rfl ?_
          refine X_cV (As := []) (st := []) C (post := _) (t + 2) (by omega) hN2.2.1 rfl (ct_X1_passWeek hw (n := t + 2) hN2  hp23 gp23) kX5_124 (by decide) (by decide) rfl rfl (Nat.le_of_ble_eq_true rfl) (D (32, .invokevirtual 124, 3) (mg 19 rfl)) rfl (fun v20 H18 G19 hv20 => ?_)
          obtain ⟨rfl, rfl, rfl⟩ := hv20
          show X k w _ 35 [some (.ref (wA w (t))), some (.int (nI (nV B n (tE B n (p))))), some (.int (nI (j)))] [] (cwH hp23 (t + 2)) gp23
          refine X_iinc (v := nI (j + 1)) (ls' := [some (.ref (wA w (t))), some (.int (nI (nV B n (tE B n (p))))), some (.int (nI (j + 1)))]) C (D (35, .iinc 2 1, 3) (mg 20 rfl)) rfl (nI_add (j) 1) rfl ?_
          refine X_goto (tgt := 23) C (D (38, .goto (-15), 3) (mg 21 rfl)) (by decide) ?_
          refine X_eq (ls' := [some (.ref (wA w (t))), some (.int (nI (nV B n (tE B n (p))))), some (.int (nI (j + 1)))]) (st' := []) (h' := (cwH hp23 (t + 2))) (g' := gp23) rfl rfl rfl rfl ?_
          exact ih23 (j + 1) ((cwH hp23 (t + 2))) (gp23) (by omega) (fun q i z1 z2 => by rw [cwH_ne _ _ (by omega)]; exact hc23_1 q i z1 z2) ⟨(((cwH_ne _ _ (by omega))).trans ae11), (((cwH_ne _ _ (by omega))).trans be11), (((cwH_ne _ _ (by omega))).trans ce11), (fun w => by rw [cwH_ne _ _ (by omega)]; exact de11 w)⟩ (by rw [nWks_s]; exact (rC_wk hc23_3 hc23_4)) (nWks_ok _ hok) (by omega)
    refine X_eq (ls' := [some (.ref (wA w (t))), some (.int (nI (nV B n (tE B n (p))))), some (.int (nI (0)))]) (st' := []) (h' := H1) (g' := G2) rfl rfl rfl rfl ?_
    exact lp23 _ (0) (H1) (G2) (by omega) (fun q i z1 z2 => by rw [f4 _ _ (by omega)]) ⟨(ae5), (be5), (ce5), de5⟩ (rC_k (fun q i z1 z2 => f4 _ _ (by omega)) hrc) hok (Nat.le_refl _)
  · skip
    have q9 : ¬ (isN B n (tE B n (p)) (1) (99)) := bz0.mp q9
    refine X_iconst (v := nI (0)) C (D (14, .iconst 0, 1) (mg 7 rfl)) (by decide) ?_
    exact X_zret C (D (15, .ireturn, 1) (mg 8 rfl)) rfl (have hr : pWee B n (tE B n (p)) z = (false, tE B n (p), z) := (by unfold pWee; exact if_neg (by assumption)); pBr_f hr (xC_f hr (fun q i z1 z2 => by rw [f4 _ _ (by omega)]) ⟨(ae5), (be5), (ce5), de5⟩ (rC_at (rC_k (fun q i z1 z2 => f4 _ _ (by omega)) hrc) hok)))
