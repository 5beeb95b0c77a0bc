/-! THE CLASS, 2: Past, State -/
/-- Past at place p: rows p + 1; field 1 size -/
def shP (w : Kw) (p : Nat) : Prop := p + 1 < wN w ∧ wS w p = .inl (1, [p + 1 + 2, 0]) ∧ wS w (p + 1) = .inr (.inl (0, 216))
/-- at most 8 may be undone, and where THE HARROW was is a CELL in each row -/
def paOk (h : xI) (p : Nat) : Prop := (∃ k, k ≤ 8 ∧ h p 1 = nI k) ∧ ∀ r, r < 8 → ∃ c, c < 25 ∧ h (p + 1) (27 * r + 25) = nI c
def atOk (h : xI) (n : Nat) : Prop := ∃ c, c < 25 ∧ h n 3 = nI c
def ppH (h : xI) (p o : Nat) : xI := u2 (cpS h (o + 1) 0 (p + 1) 0 216) p 1 (cpS h (o + 1) 0 (p + 1) 0 216 o 1)
theorem u2_ne {α : Type} (h : Nat → Nat → α) (p i : Nat) (v : α) {q j : Nat} (hn : ¬ (q = p ∧ j = i)) : u2 h p i v q j = h q j := if_neg hn
theorem u2_at {α : Type} (h : Nat → Nat → α) (p i : Nat) (v : α) {q j : Nat} (hn : q = p ∧ j = i) : u2 h p i v q j = v := if_pos hn
theorem cpS_ne (h : xI) (src a dst b n : Nat) {p i : Nat} (hn : ¬ (p = dst ∧ b ≤ i ∧ i < b + n)) : cpS h src a dst b n p i = h p i := if_neg hn
theorem cpS_at (h : xI) (src a dst b n : Nat) {p i : Nat} (hn : p = dst ∧ b ≤ i ∧ i < b + n) : cpS h src a dst b n p i = h src (i - b + a) := if_pos hn
theorem mp_ne (h : xI) (q a n : Nat) (f : Int32 → Int32) {p i : Nat} (hn : ¬ (p = q ∧ a ≤ i ∧ i < a + n)) : mp h q a n f p i = h p i := if_neg hn
set_option maxHeartbeats 4000000 in
set_option maxRecDepth 100000 in
theorem ct_X2_copyFrom {l : Launch} {w : Kw} (hw : wOk w) {p : Nat} (hP : shP w p) {o : Nat} (hO : shP w o) (h : xI) (g : xJ)  : Ct l w yX2_copyFrom cX2_copyFrom 2 none 1 26 [.ref (wA w (p)), .ref (wA w (o))] h g (px none (ppH h p o) g) := by
  refine Ct_of (ls := [some (.ref (wA w (p))), some (.ref (wA w (o)))]) (by decide) hw (Nat.le_of_ble_eq_true rfl) rfl (fun k hkl C => ?_)
  have C : Cx k w cX2_copyFrom RX2 2 none 1 26 := C
  have D := dtX2_copyFrom
  subst hkl
  have hP0 := hP
  obtain ⟨hpn, hsp, hp1⟩ := hP
  have hP := hP0
  obtain ⟨ho, hso, ho1⟩ := hO
  refine X_aload_n C 1 (D (0, .aload_n 1, 1) (mg 0 rfl)) rfl rfl ?_
  refine X_get (v := .ref (wA w (o + 1))) C (o) 0 (by omega) hso rfl rfl (by decide) inX2 fX2_11 rfl (D (1, .getfield 11, 3) (mg 1 rfl)) rfl ?_
  refine X_iconst (v := nI (0)) C (D (4, .iconst 0, 1) (mg 2 rfl)) (by decide) ?_
  refine X_aload_n C 0 (D (5, .aload_n 0, 1) (mg 3 rfl)) rfl rfl ?_
  refine X_get (v := .ref (wA w (p + 1))) C (p) 0 (by omega) hsp rfl rfl (by decide) inX2 fX2_11 rfl (D (6, .getfield 11, 3) (mg 4 rfl)) rfl ?_
  refine X_iconst (v := nI (0)) C (D (9, .iconst 0, 1) (mg 5 rfl)) (by decide) ?_
  refine X_sipush (v := nI (216)) C (D (10, .sipush 216, 3) (mg 6 rfl)) (by decide) ?_
  refine X_copy (st := []) C (o + 1) (p + 1) (by omega) ho1 (by omega) hp1 (by omega) (by omega) (by omega) (by omega) kX2_15 (D (13, .invokestatic 15, 3) (mg 7 rfl)) (by decide) (by decide) (Nat.le_of_ble_eq_true rfl) rfl ?_
  refine X_aload_n C 0 (D (16, .aload_n 0, 1) (mg 8 rfl)) rfl rfl ?_
  refine X_aload_n C 1 (D (17, .aload_n 1, 1) (mg 9 rfl)) rfl rfl ?_
  refine X_get (v := .int ((cpS h (o + 1) (0) (p + 1) (0) (216)) (o) 1)) C (o) 1 (by omega) hso rfl rfl (by decide) inX2 fX2_21 rfl (D (18, .getfield 21, 3) (mg 10 rfl)) rfl ?_
  refine X_putI C (p) 1 tyX2 tyX2_ok nmX2 (by omega) hsp rfl rfl (by decide) inX2 fX2_21 rfl rfl (by decide +kernel) (D (21, .putfield 21, 3) (mg 11 rfl)) ?_
  exact X_vret C (D (24, .return_, 1) (mg 12 rfl)) ⟨rfl, rfl, rfl⟩
theorem kp_ok {h : xI} {p n k c0 : Nat} {W : Int32} (hc : c0 < 25) (hk : k ≤ 7) (hcols : ∀ r, r < 8 → ∃ c, c < 25 ∧ h (p + 1) (27 * r + 25) = nI c) : paOk (u2 (u2 (u2 (cpS h (n + 2) 0 (p + 1) (k * 27) 25) (p + 1) (k * 27 + 25) (nI c0)) (p + 1) (k * 27 + 25 + 1) W) p 1 (nI (k + 1))) p := by
  refine ⟨⟨k + 1, by omega, u2_s _ _ _ _⟩, fun r hr => ?_⟩
  rw [u2_ne _ _ _ _ (by omega), u2_ne _ _ _ _ (by omega)]
  by_cases e : r = k
  · subst e
    exact ⟨c0, hc, u2_at _ _ _ _ ⟨rfl, by omega⟩⟩
  · rw [u2_ne _ _ _ _ (by omega), cpS_ne _ _ _ _ _ _ (by omega)]
    exact hcols r hr
theorem kp_sh {h : xI} {p : Nat} (hcols : ∀ r, r < 8 → ∃ c, c < 25 ∧ h (p + 1) (27 * r + 25) = nI c) : ∀ r, r < 8 → ∃ c, c < 25 ∧ u2 (cpS h (p + 1) 27 (p + 1) 0 189) p 1 (nI 7) (p + 1) (27 * r + 25) = nI c := by
  intro r hr
  rw [u2_ne _ _ _ _ (by omega)]
  by_cases e : r = 7
  · rw [cpS_ne _ _ _ _ _ _ (by omega)]
    exact hcols r hr
  · rw [cpS_at _ _ _ _ _ _ (by omega), show 27 * r + 25 - 0 + 27 = 27 * (r + 1) + 25 by omega]
    exact hcols (r + 1) (by omega)
set_option maxHeartbeats 4000000 in
set_option maxRecDepth 100000 in
theorem ct_X2_keep {l : Launch} {w : Kw} (hw : wOk w) {p : Nat} (hP : shP w p) {n : Nat} (hN : shN w n) (hd : n ≠ p ∧ n ≠ p + 1) (h : xI) (g : xJ) (hpa : paOk h p) (hat0 : atOk h n) : Ct l w yX2_keep cX2_keep 3 none 1 26 [.ref (wA w (p)), .ref (wA w (n))] h g (pQv (fun h' => (∀ q i, q ≠ p → q ≠ p + 1 → h' q i = h q i) ∧ paOk h' p)) := by
  refine Ct_of (ls := [some (.ref (wA w (p))), some (.ref (wA w (n))), none]) (by decide) hw (Nat.le_of_ble_eq_true rfl) rfl (fun k hkl C => ?_)
  have C : Cx k w cX2_keep RX2 3 none 1 26 := C
  have D := dtX2_keep
  subst hkl
  have hP0 := hP
  obtain ⟨hpn, hsp, hp1⟩ := hP
  have hP := hP0
  have hN0 := hN
  obtain ⟨hn, hsn, hs1, hs2⟩ := hN
  have hN := hN0
  obtain ⟨⟨k0, hk, hb⟩, hcols⟩ := hpa
  obtain ⟨c0, hc0, hat⟩ := hat0
  have jn32 : ∀ (hh : xI) (k1 : Nat), (k1 ≤ 7) → (hh p 1 = nI k1) → (hh n 3 = nI c0) → (∀ r, r < 8 → ∃ c, c < 25 ∧ hh (p + 1) (27 * r + 25) = nI c) → (∀ q i, q ≠ p → q ≠ p + 1 → hh q i = h q i) → X k w (Zq k w (pQv (fun h' => (∀ q i, q ≠ p → q ≠ p + 1 → h' q i = h q i) ∧ paOk h' p))) 32 [some (.ref (wA w (p))), some (.ref (wA w (n))), none] [] hh g := by
    intro hh k1 hc32_0 hc32_1 hc32_2 hc32_3 hc32_4
    refine X_aload_n C 0 (D (32, .aload_n 0, 1) (mg 15 rfl)) rfl rfl ?_
    refine X_get (v := .int (hh (p) 1)) C (p) 1 (by omega) hsp rfl rfl (by decide) inX2 fX2_21 rfl (D (33, .getfield 21, 3) (mg 16 rfl)) rfl ?_
    refine X_ti (y := nI (k1)) (hc32_1) ?_
    refine X_bipush (v := nI (27)) C (D (36, .bipush 27, 2) (mg 17 rfl)) (by decide) ?_
    refine X_imul C (D (38, .imul, 1) (mg 18 rfl)) ?_
    refine X_ti (y := nI ((k1) * (27))) (pk_mul (k1) (27)) ?_
    refine X_istore_n (ls' := [some (.ref (wA w (p))), some (.ref (wA w (n))), some (.int (nI ((k1) * (27))))]) C 2 (D (39, .istore_n 2, 1) (mg 19 rfl)) rfl (Nat.le_of_ble_eq_true rfl) rfl ?_
    refine X_aload_n C 1 (D (40, .aload_n 1, 1) (mg 20 rfl)) rfl rfl ?_
    refine X_get (v := .ref (wA w (n + 2))) C (n) 1 (by omega) hsn rfl rfl (by decide) inX1 fX2_25 rfl (D (41, .getfield 25, 3) (mg 21 rfl)) rfl ?_
    refine X_iconst (v := nI (0)) C (D (44, .iconst 0, 1) (mg 22 rfl)) (by decide) ?_
    refine X_aload_n C 0 (D (45, .aload_n 0, 1) (mg 23 rfl)) rfl rfl ?_
    refine X_get (v := .ref (wA w (p + 1))) C (p) 0 (by omega) hsp rfl rfl (by decide) inX2 fX2_11 rfl (D (46, .getfield 11, 3) (mg 24 rfl)) rfl ?_
    refine X_iload_n C 2 (D (49, .iload_n 2, 1) (mg 25 rfl)) rfl rfl ?_
    refine X_bipush (v := nI (25)) C (D (50, .bipush 25, 2) (mg 26 rfl)) (by decide) ?_
    refine X_copy (st := []) C (n + 2) (p + 1) (by omega) hs2 (by omega) hp1 (by omega) (by omega) (by omega) (by omega) kX2_15 (D (52, .invokestatic 15, 3) (mg 27 rfl)) (by decide) (by decide) (Nat.le_of_ble_eq_true rfl) rfl ?_
    refine X_aload_n C 0 (D (55, .aload_n 0, 1) (mg 28 rfl)) rfl rfl ?_
    refine X_get (v := .ref (wA w (p + 1))) C (p) 0 (by omega) hsp rfl rfl (by decide) inX2 fX2_11 rfl (D (56, .getfield 11, 3) (mg 29 rfl)) rfl ?_
    refine X_iload_n C 2 (D (59, .iload_n 2, 1) (mg 30 rfl)) rfl rfl ?_
    refine X_bipush (v := nI (25)) C (D (60, .bipush 25, 2) (mg 31 rfl)) (by decide) ?_
    refine X_iadd C (D (62, .iadd, 1) (mg 32 rfl)) ?_
    refine X_ti (y := nI ((k1) * (27) + 25)) (nI_add ((k1) * (27)) (25)) ?_
    refine X_aload_n C 1 (D (63, .aload_n 1, 1) (mg 33 rfl)) rfl rfl ?_
    refine X_get (v := .int ((cpS hh (n + 2) (0) (p + 1) ((k1) * (27)) (25)) (n) 3)) C (n) 3 (by omega) hsn rfl rfl (by decide) inX1 fX2_30 rfl (D (64, .getfield 30, 3) (mg 34 rfl)) rfl ?_
    refine X_ti (y := nI (c0)) (((cpS_n _ _ _ _ _ _ _ (by omega))).trans hc32_2) ?_
    refine X_iast (j := (k1) * (27) + 25) C (p + 1) (by omega) hp1 (vp_in_nI (by omega) (by omega)) (D (67, .iastore, 1) (mg 35 rfl)) (nI_clamp (by omega)) ?_
    refine X_aload_n C 0 (D (68, .aload_n 0, 1) (mg 36 rfl)) rfl rfl ?_
    refine X_get (v := .ref (wA w (p + 1))) C (p) 0 (by omega) hsp rfl rfl (by decide) inX2 fX2_11 rfl (D (69, .getfield 11, 3) (mg 37 rfl)) rfl ?_
    refine X_iload_n C 2 (D (72, .iload_n 2, 1) (mg 38 rfl)) rfl rfl ?_
    refine X_bipush (v := nI (25)) C (D (73, .bipush 25, 2) (mg 39 rfl)) (by decide) ?_
    refine X_iadd C (D (75, .iadd, 1) (mg 40 rfl)) ?_
    refine X_ti (y := nI ((k1) * (27) + 25)) (nI_add ((k1) * (27)) (25)) ?_
    refine X_iconst (v := nI (1)) C (D (76, .iconst 1, 1) (mg 41 rfl)) (by decide) ?_
    refine X_iadd C (D (77, .iadd, 1) (mg 42 rfl)) ?_
    refine X_ti (y := nI ((k1) * (27) + 25 + 1)) (nI_add ((k1) * (27) + 25) (1)) ?_
    refine X_aload_n C 1 (D (78, .aload_n 1, 1) (mg 43 rfl)) rfl rfl ?_
    refine X_get (v := .int ((u2 (cpS hh (n + 2) (0) (p + 1) ((k1) * (27)) (25)) (p + 1) ((k1) * (27) + 25) (nI (c0))) (n) 4)) C (n) 4 (by omega) hsn rfl rfl (by decide) inX1 fX2_33 rfl (D (79, .getfield 33, 3) (mg 44 rfl)) rfl ?_
    refine X_iast (j := (k1) * (27) + 25 + 1) C (p + 1) (by omega) hp1 (vp_in_nI (by omega) (by omega)) (D (82, .iastore, 1) (mg 45 rfl)) (nI_clamp (by omega)) ?_
    refine X_aload_n C 0 (D (83, .aload_n 0, 1) (mg 46 rfl)) rfl rfl ?_
    refine X_dup C (D (84, .dup, 1) (mg 47 rfl)) rfl ?_
    refine X_get (v := .int ((u2 (u2 (cpS hh (n + 2) (0) (p + 1) ((k1) * (27)) (25)) (p + 1) ((k1) * (27) + 25) (nI (c0))) (p + 1) ((k1) * (27) + 25 + 1) ((u2 (cpS hh (n + 2) (0) (p + 1) ((k1) * (27)) (25)) (p + 1) ((k1) * (27) + 25) (nI (c0))) (n) 4)) (p) 1)) C (p) 1 (by omega) hsp rfl rfl (by decide) inX2 fX2_21 rfl (D (85, .getfield 21, 3) (mg 48 rfl)) rfl ?_
    refine X_ti (y := nI (k1)) (((((u2_p _ _ _ _ (by omega))).trans (u2_p _ _ _ _ (by omega))).trans (cpS_n _ _ _ _ _ _ _ (by omega))).trans hc32_1) ?_
    refine X_iconst (v := nI (1)) C (D (88, .iconst 1, 1) (mg 49 rfl)) (by decide) ?_
    refine X_iadd C (D (89, .iadd, 1) (mg 50 rfl)) ?_
    refine X_ti (y := nI (k1 + 1)) (nI_add (k1) (1)) ?_
    refine X_putI C (p) 1 tyX2 tyX2_ok nmX2 (by omega) hsp rfl rfl (by decide) inX2 fX2_21 rfl rfl (by decide +kernel) (D (90, .putfield 21, 3) (mg 51 rfl)) ?_
    exact X_vret C (D (93, .return_, 1) (mg 52 rfl)) ⟨rfl, fun q i z1 z2 => by rw [u2_ne _ _ _ _ (fun z => z1 z.1), u2_ne _ _ _ _ (fun z => z2 z.1), u2_ne _ _ _ _ (fun z => z2 z.1), cpS_ne _ _ _ _ _ _ (fun z => z2 z.1)]; exact hc32_4 q i z1 z2, kp_ok hc0 (by omega) hc32_3⟩
  refine X_aload_n C 0 (D (0, .aload_n 0, 1) (mg 0 rfl)) rfl rfl ?_
  refine X_get (v := .int (h (p) 1)) C (p) 1 (by omega) hsp rfl rfl (by decide) inX2 fX2_21 rfl (D (1, .getfield 21, 3) (mg 1 rfl)) rfl ?_
  refine X_ti (y := nI (k0)) (hb) ?_
  refine X_bipush (v := nI (8)) C (D (4, .bipush 8, 2) (mg 2 rfl)) (by decide) ?_
  refine X_icmp_lt (tgt := 32) C (D (6, .if_icmp .lt 26, 3) (mg 3 rfl)) (by decide) (fun q1 => ?_) (fun q1 => ?_)
  · skip
    have q1 : (k0) < (8) := by have z := (nI_ltI (a := (k0)) (b := (8)) (by omega) (by omega)).mp q1; omega
    refine X_eq (ls' := [some (.ref (wA w (p))), some (.ref (wA w (n))), none]) (st' := []) (h' := h) (g' := g) rfl rfl rfl rfl ?_
    exact jn32 (h) (k0) (by omega) hb hat hcols (fun q i z1 z2 => rfl)
  · skip
    have q1 : (k0) ≥ (8) := by have z : ¬ ((k0) < (8)) := fun u => q1 ((nI_ltI (a := (k0)) (b := (8)) (by omega) (by omega)).mpr u); omega
    refine X_aload_n C 0 (D (9, .aload_n 0, 1) (mg 4 rfl)) rfl rfl ?_
    refine X_get (v := .ref (wA w (p + 1))) C (p) 0 (by omega) hsp rfl rfl (by decide) inX2 fX2_11 rfl (D (10, .getfield 11, 3) (mg 5 rfl)) rfl ?_
    refine X_bipush (v := nI (27)) C (D (13, .bipush 27, 2) (mg 6 rfl)) (by decide) ?_
    refine X_aload_n C 0 (D (15, .aload_n 0, 1) (mg 7 rfl)) rfl rfl ?_
    refine X_get (v := .ref (wA w (p + 1))) C (p) 0 (by omega) hsp rfl rfl (by decide) inX2 fX2_11 rfl (D (16, .getfield 11, 3) (mg 8 rfl)) rfl ?_
    refine X_iconst (v := nI (0)) C (D (19, .iconst 0, 1) (mg 9 rfl)) (by decide) ?_
    refine X_sipush (v := nI (189)) C (D (20, .sipush 189, 3) (mg 10 rfl)) (by decide) ?_
    refine X_copy (st := []) C (p + 1) (p + 1) (by omega) hp1 (by omega) hp1 (by omega) (by omega) (by omega) (by omega) kX2_15 (D (23, .invokestatic 15, 3) (mg 11 rfl)) (by decide) (by decide) (Nat.le_of_ble_eq_true rfl) rfl ?_
    refine X_aload_n C 0 (D (26, .aload_n 0, 1) (mg 12 rfl)) rfl rfl ?_
    refine X_bipush (v := nI (7)) C (D (27, .bipush 7, 2) (mg 13 rfl)) (by decide) ?_
    refine X_putI C (p) 1 tyX2 tyX2_ok nmX2 (by omega) hsp rfl rfl (by decide) inX2 fX2_21 rfl rfl (by decide +kernel) (D (29, .putfield 21, 3) (mg 14 rfl)) ?_
    refine X_eq (ls' := [some (.ref (wA w (p))), some (.ref (wA w (n))), none]) (st' := []) (h' := (u2 (cpS h (p + 1) (27) (p + 1) (0) (189)) (p) 1 (nI (7)))) (g' := g) rfl rfl rfl rfl ?_
    exact jn32 ((u2 (cpS h (p + 1) (27) (p + 1) (0) (189)) (p) 1 (nI (7)))) (7) (by omega) (u2_s _ _ _ _) (by rw [u2_ne _ _ _ _ (by omega), cpS_ne _ _ _ _ _ _ (by omega)]; exact hat) (kp_sh hcols) (fun q i z1 z2 => by rw [u2_ne _ _ _ _ (fun z => z1 z.1), cpS_ne _ _ _ _ _ _ (fun z => z2 z.1)])
theorem bb_ok {h : xI} {p n k : Nat} {c : Nat} {W : Int32} (hd : n ≠ p ∧ n ≠ p + 1 ∧ n + 2 ≠ p ∧ n + 2 ≠ p + 1) (hk : k ≤ 7) (hc : c < 25) (hcols : ∀ r, r < 8 → ∃ c, c < 25 ∧ h (p + 1) (27 * r + 25) = nI c) : (∀ q i, q ≠ p → q ≠ n + 2 → (q ≠ n ∨ (i ≠ 3 ∧ i ≠ 4)) → u2 (u2 (cpS (u2 h p 1 (nI k)) (p + 1) (k * 27) (n + 2) 0 25) n 3 (nI c)) n 4 W q i = h q i) ∧ paOk (u2 (u2 (cpS (u2 h p 1 (nI k)) (p + 1) (k * 27) (n + 2) 0 25) n 3 (nI c)) n 4 W) p ∧ atOk (u2 (u2 (cpS (u2 h p 1 (nI k)) (p + 1) (k * 27) (n + 2) 0 25) n 3 (nI c)) n 4 W) n := by
  refine ⟨fun q i z1 z2 z3 => ?_, ⟨⟨k, by omega, ?_⟩, fun r hr => ?_⟩, ⟨c, hc, ?_⟩⟩
  · rw [u2_ne _ _ _ _ (by omega), u2_ne _ _ _ _ (by omega), cpS_ne _ _ _ _ _ _ (by omega), u2_ne _ _ _ _ (by omega)]
  · rw [u2_ne _ _ _ _ (by omega), u2_ne _ _ _ _ (by omega), cpS_ne _ _ _ _ _ _ (by omega), u2_s]
  · rw [u2_ne _ _ _ _ (by omega), u2_ne _ _ _ _ (by omega), cpS_ne _ _ _ _ _ _ (by omega), u2_ne _ _ _ _ (by omega)]
    exact hcols r hr
  · rw [u2_ne _ _ _ _ (by omega), u2_s]
set_option maxHeartbeats 4000000 in
set_option maxRecDepth 100000 in
theorem ct_X2_bringBack {l : Launch} {w : Kw} (hw : wOk w) {p : Nat} (hP : shP w p) {n : Nat} (hN : shN w n) (hd : n ≠ p ∧ n ≠ p + 1 ∧ n + 2 ≠ p ∧ n + 2 ≠ p + 1) (h : xI) (g : xJ) (hpa : paOk h p) (hat0 : atOk h n) : Ct l w yX2_bringBack cX2_bringBack 3 none 1 26 [.ref (wA w (p)), .ref (wA w (n))] h g (pQv (fun h' => (∀ q i, q ≠ p → q ≠ n + 2 → (q ≠ n ∨ (i ≠ 3 ∧ i ≠ 4)) → h' q i = h q i) ∧ paOk h' p ∧ atOk h' n)) := by
  refine Ct_of (ls := [some (.ref (wA w (p))), some (.ref (wA w (n))), none]) (by decide) hw (Nat.le_of_ble_eq_true rfl) rfl (fun k hkl C => ?_)
  have C : Cx k w cX2_bringBack RX2 3 none 1 26 := C
  have D := dtX2_bringBack
  subst hkl
  have hP0 := hP
  obtain ⟨hpn, hsp, hp1⟩ := hP
  have hP := hP0
  have hN0 := hN
  obtain ⟨hn, hsn, hs1, hs2⟩ := hN
  have hN := hN0
  obtain ⟨⟨k0, hk, hb⟩, hcols⟩ := hpa
  obtain ⟨c0, hc0, hat⟩ := hat0
  refine X_aload_n C 0 (D (0, .aload_n 0, 1) (mg 0 rfl)) rfl rfl ?_
  refine X_get (v := .int (h (p) 1)) C (p) 1 (by omega) hsp rfl rfl (by decide) inX2 fX2_21 rfl (D (1, .getfield 21, 3) (mg 1 rfl)) rfl ?_
  refine X_ti (y := nI (k0)) (hb) ?_
  refine X_if_le (tgt := 68) C (D (4, .ifCond .le 64, 3) (mg 2 rfl)) (by decide) (fun q1 => ?_) (fun q1 => ?_)
  · skip
    have q1 : (k0) ≤ (0) := by have z := (nI_leI (a := (k0)) (b := (0)) (by omega) (by omega)).mp q1; omega
    exact X_vret C (D (68, .return_, 1) (mg 40 rfl)) ⟨rfl, fun _ _ _ _ _ => rfl, ⟨⟨k0, hk, hb⟩, hcols⟩, ⟨c0, hc0, hat⟩⟩
  · skip
    have q1 : (k0) > (0) := by have z : ¬ ((k0) ≤ (0)) := fun u => q1 ((nI_leI (a := (k0)) (b := (0)) (by omega) (by omega)).mpr u); omega
    obtain ⟨c9, hc9, he9⟩ := hcols (k0 - 1) (by omega)
    rw [show 27 * (k0 - 1) + 25 = (k0 - 1) * 27 + 25 by omega] at he9
    refine X_aload_n C 0 (D (7, .aload_n 0, 1) (mg 3 rfl)) rfl rfl ?_
    refine X_dup C (D (8, .dup, 1) (mg 4 rfl)) rfl ?_
    refine X_get (v := .int (h (p) 1)) C (p) 1 (by omega) hsp rfl rfl (by decide) inX2 fX2_21 rfl (D (9, .getfield 21, 3) (mg 5 rfl)) rfl ?_
    refine X_ti (y := nI (k0)) (hb) ?_
    refine X_iconst (v := nI (1)) C (D (12, .iconst 1, 1) (mg 6 rfl)) (by decide) ?_
    refine X_isub C (D (13, .isub, 1) (mg 7 rfl)) ?_
    refine X_ti (y := nI (k0 - 1)) (pk_sub (by omega)) ?_
    refine X_putI C (p) 1 tyX2 tyX2_ok nmX2 (by omega) hsp rfl rfl (by decide) inX2 fX2_21 rfl rfl (by decide +kernel) (D (14, .putfield 21, 3) (mg 8 rfl)) ?_
    refine X_aload_n C 0 (D (17, .aload_n 0, 1) (mg 9 rfl)) rfl rfl ?_
    refine X_get (v := .int ((u2 h (p) 1 (nI (k0 - 1))) (p) 1)) C (p) 1 (by omega) hsp rfl rfl (by decide) inX2 fX2_21 rfl (D (18, .getfield 21, 3) (mg 10 rfl)) rfl ?_
    refine X_ti (y := nI (k0 - 1)) ((u2_s _ _ _ _)) ?_
    refine X_bipush (v := nI (27)) C (D (21, .bipush 27, 2) (mg 11 rfl)) (by decide) ?_
    refine X_imul C (D (23, .imul, 1) (mg 12 rfl)) ?_
    refine X_ti (y := nI ((k0 - 1) * (27))) (pk_mul (k0 - 1) (27)) ?_
    refine X_istore_n (ls' := [some (.ref (wA w (p))), some (.ref (wA w (n))), some (.int (nI ((k0 - 1) * (27))))]) C 2 (D (24, .istore_n 2, 1) (mg 13 rfl)) rfl (Nat.le_of_ble_eq_true rfl) rfl ?_
    refine X_aload_n C 0 (D (25, .aload_n 0, 1) (mg 14 rfl)) rfl rfl ?_
    refine X_get (v := .ref (wA w (p + 1))) C (p) 0 (by omega) hsp rfl rfl (by decide) inX2 fX2_11 rfl (D (26, .getfield 11, 3) (mg 15 rfl)) rfl ?_
    refine X_iload_n C 2 (D (29, .iload_n 2, 1) (mg 16 rfl)) rfl rfl ?_
    refine X_aload_n C 1 (D (30, .aload_n 1, 1) (mg 17 rfl)) rfl rfl ?_
    refine X_get (v := .ref (wA w (n + 2))) C (n) 1 (by omega) hsn rfl rfl (by decide) inX1 fX2_25 rfl (D (31, .getfield 25, 3) (mg 18 rfl)) rfl ?_
    refine X_iconst (v := nI (0)) C (D (34, .iconst 0, 1) (mg 19 rfl)) (by decide) ?_
    refine X_bipush (v := nI (25)) C (D (35, .bipush 25, 2) (mg 20 rfl)) (by decide) ?_
    refine X_copy (st := []) C (p + 1) (n + 2) (by omega) hp1 (by omega) hs2 (by omega) (by omega) (by omega) (by omega) kX2_15 (D (37, .invokestatic 15, 3) (mg 21 rfl)) (by decide) (by decide) (Nat.le_of_ble_eq_true rfl) rfl ?_
    refine X_aload_n C 1 (D (40, .aload_n 1, 1) (mg 22 rfl)) rfl rfl ?_
    refine X_aload_n C 0 (D (41, .aload_n 0, 1) (mg 23 rfl)) rfl rfl ?_
    refine X_get (v := .ref (wA w (p + 1))) C (p) 0 (by omega) hsp rfl rfl (by decide) inX2 fX2_11 rfl (D (42, .getfield 11, 3) (mg 24 rfl)) rfl ?_
    refine X_iload_n C 2 (D (45, .iload_n 2, 1) (mg 25 rfl)) rfl rfl ?_
    refine X_bipush (v := nI (25)) C (D (46, .bipush 25, 2) (mg 26 rfl)) (by decide) ?_
    refine X_iadd C (D (48, .iadd, 1) (mg 27 rfl)) ?_
    refine X_ti (y := nI ((k0 - 1) * (27) + 25)) (nI_add ((k0 - 1) * (27)) (25)) ?_
    refine X_iald (v := (cpS (u2 h (p) 1 (nI (k0 - 1))) (p + 1) ((k0 - 1) * (27)) (n + 2) (0) (25)) (p + 1) ((k0 - 1) * (27) + 25)) C (p + 1) (by omega) hp1 (vp_in_nI (by omega) (by omega)) (D (49, .iaload, 1) (mg 28 rfl)) (by rw [nI_clamp (by omega)]) ?_
    refine X_ti (y := nI (c9)) ((cpS_ne _ _ _ _ _ _ (by omega)).trans ((u2_ne _ _ _ _ (by omega)).trans he9)) ?_
    refine X_putI C (n) 3 tyX1 tyX1_ok nmX1 (by omega) hsn rfl rfl (by decide) inX1 fX2_30 rfl rfl (by decide +kernel) (D (50, .putfield 30, 3) (mg 29 rfl)) ?_
    refine X_aload_n C 1 (D (53, .aload_n 1, 1) (mg 30 rfl)) rfl rfl ?_
    refine X_aload_n C 0 (D (54, .aload_n 0, 1) (mg 31 rfl)) rfl rfl ?_
    refine X_get (v := .ref (wA w (p + 1))) C (p) 0 (by omega) hsp rfl rfl (by decide) inX2 fX2_11 rfl (D (55, .getfield 11, 3) (mg 32 rfl)) rfl ?_
    refine X_iload_n C 2 (D (58, .iload_n 2, 1) (mg 33 rfl)) rfl rfl ?_
    refine X_bipush (v := nI (25)) C (D (59, .bipush 25, 2) (mg 34 rfl)) (by decide) ?_
    refine X_iadd C (D (61, .iadd, 1) (mg 35 rfl)) ?_
    refine X_ti (y := nI ((k0 - 1) * (27) + 25)) (nI_add ((k0 - 1) * (27)) (25)) ?_
    refine X_iconst (v := nI (1)) C (D (62, .iconst 1, 1) (mg 36 rfl)) (by decide) ?_
    refine X_iadd C (D (63, .iadd, 1) (mg 37 rfl)) ?_
    refine X_ti (y := nI ((k0 - 1) * (27) + 25 + 1)) (nI_add ((k0 - 1) * (27) + 25) (1)) ?_
    refine X_iald (v := (u2 (cpS (u2 h (p) 1 (nI (k0 - 1))) (p + 1) ((k0 - 1) * (27)) (n + 2) (0) (25)) (n) 3 (nI (c9))) (p + 1) ((k0 - 1) * (27) + 25 + 1)) C (p + 1) (by omega) hp1 (vp_in_nI (by omega) (by omega)) (D (64, .iaload, 1) (mg 38 rfl)) (by rw [nI_clamp (by omega)]) ?_
    refine X_putI C (n) 4 tyX1 tyX1_ok nmX1 (by omega) hsn rfl rfl (by decide) inX1 fX2_33 rfl rfl (by decide +kernel) (D (65, .putfield 33, 3) (mg 39 rfl)) ?_
    exact X_vret C (D (68, .return_, 1) (mg 40 rfl)) ⟨rfl, bb_ok hd (by omega) hc9 hcols⟩
def shT (w : Kw) (t : Nat) : Prop := t + 7 < wN w ∧ wS w t = .inl (2, [t + 1 + 2, t + 4 + 2, t + 6 + 2, t + 7 + 2, 0, 0]) ∧ shN w (t + 1) ∧ shP w (t + 4) ∧ wS w (t + 6) = .inr (.inl (0, 20)) ∧ wS w (t + 7) = .inr (.inl (0, 18))
def dnH (h : xI) (t : Nat) : xI := u2 (u2 (u2 h (t + 4) 1 (nI 0)) t 4 (nI 0)) t 5 (nI 0)
def ta0 (h : xI) (t o : Nat) : xI := cpS (cpS (ppH (ccH h (t + 1) (o + 1)) (t + 4) (o + 4)) (o + 6) 0 (t + 6) 0 20) (o + 7) 0 (t + 7) 0 18
def ta1 (h : xI) (t o : Nat) : xI := u2 (ta0 h t o) t 4 (ta0 h t o o 4)
def taH (h : xI) (t o : Nat) : xI := u2 (ta1 h t o) t 5 (ta1 h t o o 5)
set_option maxHeartbeats 4000000 in
set_option maxRecDepth 100000 in
theorem ct_X4_dropNotes {l : Launch} {w : Kw} (hw : wOk w) {t : Nat} (hTa : shT w t) (h : xI) (g : xJ)  : Ct l w yX4_dropNotes cX4_dropNotes 1 none 0 0 [.ref (wA w (t))] h g (px none (dnH h t) g) := by
  refine Ct_of (ls := [some (.ref (wA w (t)))]) (by decide) hw (Nat.le_of_ble_eq_true rfl) rfl (fun k hkl C => ?_)
  have C : Cx k w cX4_dropNotes RX4 1 none 0 0 := C
  have D := dtX4_dropNotes
  subst hkl
  obtain ⟨hta, hsta, hT1a, hT4a, hs6a, hs7a⟩ := hTa
  refine X_aload_n C 0 (D (0, .aload_n 0, 1) (mg 0 rfl)) rfl rfl ?_
  refine X_get (v := .ref (wA w (t + 4))) C (t) 1 (by omega) hsta rfl rfl (by decide) inX4 fX4_21 rfl (D (1, .getfield 21, 3) (mg 1 rfl)) rfl ?_
  refine X_iconst (v := nI (0)) C (D (4, .iconst 0, 1) (mg 2 rfl)) (by decide) ?_
  refine X_putI C (t + 4) 1 tyX2 tyX2_ok nmX2 (by omega) hT4a.2.1 rfl rfl (by decide) inX2 fX4_32 rfl rfl (by decide +kernel) (D (5, .putfield 32, 3) (mg 3 rfl)) ?_
  refine X_aload_n C 0 (D (8, .aload_n 0, 1) (mg 4 rfl)) rfl rfl ?_
  refine X_iconst (v := nI (0)) C (D (9, .iconst 0, 1) (mg 5 rfl)) (by decide) ?_
  refine X_putI C (t) 4 tyX4 tyX4_ok nmX4 (by omega) hsta rfl rfl (by decide) inX4 fX4_36 rfl rfl (by decide +kernel) (D (10, .putfield 36, 3) (mg 6 rfl)) ?_
  refine X_aload_n C 0 (D (13, .aload_n 0, 1) (mg 7 rfl)) rfl rfl ?_
  refine X_iconst (v := nI (0)) C (D (14, .iconst 0, 1) (mg 8 rfl)) (by decide) ?_
  refine X_putI C (t) 5 tyX4 tyX4_ok nmX4 (by omega) hsta rfl rfl (by decide) inX4 fX4_39 rfl rfl (by decide +kernel) (D (15, .putfield 39, 3) (mg 9 rfl)) ?_
  exact X_vret C (D (18, .return_, 1) (mg 10 rfl)) ⟨rfl, rfl, rfl⟩
set_option maxHeartbeats 4000000 in
set_option maxRecDepth 100000 in
theorem ct_X4_takeFrom {l : Launch} {w : Kw} (hw : wOk w) {t o : Nat} (hTa : shT w t) (hTb : shT w o) (h : xI) (g : xJ)  : Ct l w yX4_takeFrom cX4_takeFrom 2 none 2 47 [.ref (wA w (t)), .ref (wA w (o))] h g (px none (taH h t o) g) := by
  refine Ct_of (ls := [some (.ref (wA w (t))), some (.ref (wA w (o)))]) (by decide) hw (Nat.le_of_ble_eq_true rfl) rfl (fun k hkl C => ?_)
  have C : Cx k w cX4_takeFrom RX4 2 none 2 47 := C
  have D := dtX4_takeFrom
  subst hkl
  obtain ⟨hta, hsta, hT1a, hT4a, hs6a, hs7a⟩ := hTa
  obtain ⟨htb, hstb, hT1b, hT4b, hs6b, hs7b⟩ := hTb
  refine X_aload_n C 0 (D (0, .aload_n 0, 1) (mg 0 rfl)) rfl rfl ?_
  refine X_get (v := .ref (wA w (t + 1))) C (t) 0 (by omega) hsta rfl rfl (by decide) inX4 fX4_12 rfl (D (1, .getfield 12, 3) (mg 1 rfl)) rfl ?_
  refine X_aload_n C 1 (D (4, .aload_n 1, 1) (mg 2 rfl)) rfl rfl ?_
  refine X_get (v := .ref (wA w (o + 1))) C (o) 0 (by omega) hstb rfl rfl (by decide) inX4 fX4_12 rfl (D (5, .getfield 12, 3) (mg 3 rfl)) rfl ?_
  refine X_cV (As := [.ref (wA w (o + 1))]) (st := []) C (post := _) (t + 1) (by omega) hT1a.2.1 rfl (ct_X1_copyFrom hw (n := t + 1) hT1a (o := o + 1) hT1b h g) kX4_42 (by decide) (by decide) rfl rfl (Nat.le_of_ble_eq_true rfl) (D (8, .invokevirtual 42, 3) (mg 4 rfl)) rfl (fun v3 H1 G2 hv3 => ?_)
  obtain ⟨rfl, rfl, rfl⟩ := hv3
  show X k w _ 11 [some (.ref (wA w (t))), some (.ref (wA w (o)))] [] (ccH h (t + 1) (o + 1)) g
  refine X_aload_n C 0 (D (11, .aload_n 0, 1) (mg 5 rfl)) rfl rfl ?_
  refine X_get (v := .ref (wA w (t + 4))) C (t) 1 (by omega) hsta rfl rfl (by decide) inX4 fX4_21 rfl (D (12, .getfield 21, 3) (mg 6 rfl)) rfl ?_
  refine X_aload_n C 1 (D (15, .aload_n 1, 1) (mg 7 rfl)) rfl rfl ?_
  refine X_get (v := .ref (wA w (o + 4))) C (o) 1 (by omega) hstb rfl rfl (by decide) inX4 fX4_21 rfl (D (16, .getfield 21, 3) (mg 8 rfl)) rfl ?_
  refine X_cV (As := [.ref (wA w (o + 4))]) (st := []) C (post := _) (t + 4) (by omega) hT4a.2.1 rfl (ct_X2_copyFrom hw (p := t + 4) hT4a (o := o + 4) hT4b (ccH h (t + 1) (o + 1)) g) kX4_46 (by decide) (by decide) rfl rfl (Nat.le_of_ble_eq_true rfl) (D (19, .invokevirtual 46, 3) (mg 9 rfl)) rfl (fun v6 H4 G5 hv6 => ?_)
  obtain ⟨rfl, rfl, rfl⟩ := hv6
  show X k w _ 22 [some (.ref (wA w (t))), some (.ref (wA w (o)))] [] (ppH (ccH h (t + 1) (o + 1)) (t + 4) (o + 4)) g
  refine X_aload_n C 1 (D (22, .aload_n 1, 1) (mg 10 rfl)) rfl rfl ?_
  refine X_get (v := .ref (wA w (o + 6))) C (o) 2 (by omega) hstb rfl rfl (by decide) inX4 fX4_25 rfl (D (23, .getfield 25, 3) (mg 11 rfl)) rfl ?_
  refine X_iconst (v := nI (0)) C (D (26, .iconst 0, 1) (mg 12 rfl)) (by decide) ?_
  refine X_aload_n C 0 (D (27, .aload_n 0, 1) (mg 13 rfl)) rfl rfl ?_
  refine X_get (v := .ref (wA w (t + 6))) C (t) 2 (by omega) hsta rfl rfl (by decide) inX4 fX4_25 rfl (D (28, .getfield 25, 3) (mg 14 rfl)) rfl ?_
  refine X_iconst (v := nI (0)) C (D (31, .iconst 0, 1) (mg 15 rfl)) (by decide) ?_
  refine X_bipush (v := nI (20)) C (D (32, .bipush 20, 2) (mg 16 rfl)) (by decide) ?_
  refine X_copy (st := []) C (o + 6) (t + 6) (by omega) hs6b (by omega) hs6a (by omega) (by omega) (by omega) (by omega) kX4_49 (D (34, .invokestatic 49, 3) (mg 17 rfl)) (by decide) (by decide) (Nat.le_of_ble_eq_true rfl) rfl ?_
  refine X_aload_n C 1 (D (37, .aload_n 1, 1) (mg 18 rfl)) rfl rfl ?_
  refine X_get (v := .ref (wA w (o + 7))) C (o) 3 (by omega) hstb rfl rfl (by decide) inX4 fX4_29 rfl (D (38, .getfield 29, 3) (mg 19 rfl)) rfl ?_
  refine X_iconst (v := nI (0)) C (D (41, .iconst 0, 1) (mg 20 rfl)) (by decide) ?_
  refine X_aload_n C 0 (D (42, .aload_n 0, 1) (mg 21 rfl)) rfl rfl ?_
  refine X_get (v := .ref (wA w (t + 7))) C (t) 3 (by omega) hsta rfl rfl (by decide) inX4 fX4_29 rfl (D (43, .getfield 29, 3) (mg 22 rfl)) rfl ?_
  refine X_iconst (v := nI (0)) C (D (46, .iconst 0, 1) (mg 23 rfl)) (by decide) ?_
  refine X_bipush (v := nI (18)) C (D (47, .bipush 18, 2) (mg 24 rfl)) (by decide) ?_
  refine X_copy (st := []) C (o + 7) (t + 7) (by omega) hs7b (by omega) hs7a (by omega) (by omega) (by omega) (by omega) kX4_49 (D (49, .invokestatic 49, 3) (mg 25 rfl)) (by decide) (by decide) (Nat.le_of_ble_eq_true rfl) rfl ?_
  refine X_aload_n C 0 (D (52, .aload_n 0, 1) (mg 26 rfl)) rfl rfl ?_
  refine X_aload_n C 1 (D (53, .aload_n 1, 1) (mg 27 rfl)) rfl rfl ?_
  refine X_get (v := .int ((cpS (cpS (ppH (ccH h (t + 1) (o + 1)) (t + 4) (o + 4)) (o + 6) (0) (t + 6) (0) (20)) (o + 7) (0) (t + 7) (0) (18)) (o) 4)) C (o) 4 (by omega) hstb rfl rfl (by decide) inX4 fX4_36 rfl (D (54, .getfield 36, 3) (mg 28 rfl)) rfl ?_
  refine X_putI C (t) 4 tyX4 tyX4_ok nmX4 (by omega) hsta rfl rfl (by decide) inX4 fX4_36 rfl rfl (by decide +kernel) (D (57, .putfield 36, 3) (mg 29 rfl)) ?_
  refine X_aload_n C 0 (D (60, .aload_n 0, 1) (mg 30 rfl)) rfl rfl ?_
  refine X_aload_n C 1 (D (61, .aload_n 1, 1) (mg 31 rfl)) rfl rfl ?_
  refine X_get (v := .int ((u2 (cpS (cpS (ppH (ccH h (t + 1) (o + 1)) (t + 4) (o + 4)) (o + 6) (0) (t + 6) (0) (20)) (o + 7) (0) (t + 7) (0) (18)) (t) 4 ((cpS (cpS (ppH (ccH h (t + 1) (o + 1)) (t + 4) (o + 4)) (o + 6) (0) (t + 6) (0) (20)) (o + 7) (0) (t + 7) (0) (18)) (o) 4)) (o) 5)) C (o) 5 (by omega) hstb rfl rfl (by decide) inX4 fX4_39 rfl (D (62, .getfield 39, 3) (mg 32 rfl)) rfl ?_
  refine X_putI C (t) 5 tyX4 tyX4_ok nmX4 (by omega) hsta rfl rfl (by decide) inX4 fX4_39 rfl rfl (by decide +kernel) (D (65, .putfield 39, 3) (mg 33 rfl)) ?_
  exact X_vret C (D (68, .return_, 1) (mg 34 rfl)) ⟨rfl, rfl, rfl⟩
