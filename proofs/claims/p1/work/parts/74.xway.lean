/-! PHASE 3, THE CLASS: Way, exact -/
theorem ap_e : ∀ a, a < 25 → ∀ b, b < 25 → nI (dst a b) = abI (nI (a / 5) - nI (b / 5)) + abI (nI (a % 5) - nI (b % 5)) := by decide +kernel
theorem cl_4 : ∀ S, S < 32 → ∀ i, i < 5 → S.testBit i = false → clr S i = S := by decide +kernel
theorem tb_n {S j : Nat} (hS : S < 32) (hj : j < 5) : ((nI S >>> (nI j &&& 31)) &&& nI 1 = nI 1) ↔ S.testBit j = true := by
  rw [has_n (by omega) (by omega), Nat.testBit_eq_decide_div_mod_eq]
  exact ⟨fun z => decide_eq_true z, fun z => of_decide_eq_true z⟩
theorem wo_m {T : Nat → Nat} {s S c j : Nat} (hs : s ≤ 5) (hS : S < 32) (hD : dis T s) (hj : j < s) (e : T j = c) : woF T c s S = clr S j := by
  refine wo3_u hD (woF_3 s) ?_
  cases hb : S.testBit j with
  | true => exact Or.inl ⟨j, hj, e, hb, rfl⟩
  | false =>
    refine Or.inr ⟨fun k hk hk2 e2 => ?_, cl_4 S hS j (by omega) hb⟩
    have := hD k j hk hj (e2.trans e.symm)
    subst this
    rw [hb] at hk2; cases hk2
theorem wo_n {T : Nat → Nat} {s S c : Nat} (hD : dis T s) (H : ∀ k, k < s → T k ≠ c) : woF T c s S = S := wo3_u hD (woF_3 s) (Or.inr ⟨fun k hk _ => H k hk, rfl⟩)
def FWm (T : Nat → Nat) (s c S j : Nat) : Nat := mnW (fun i => S.testBit i) (fun i => dst c (T i) + FW T s (T i) (clr S i)) j
theorem FWm_le {T : Nat → Nat} {s c S : Nat} : ∀ j, FWm T s c S j ≤ 1000
  | 0 => Nat.le_refl _
  | n + 1 => by
    have := FWm_le (T := T) (s := s) (c := c) (S := S) n
    show (if S.testBit n = true then (if dst c (T n) + FW T s (T n) (clr S n) < FWm T s c S n then dst c (T n) + FW T s (T n) (clr S n) else FWm T s c S n) else FWm T s c S n) ≤ 1000
    split
    · split <;> omega
    · exact this
theorem FWm_t {T : Nat → Nat} {s c S n F : Nat} (hb : S.testBit n = true) (hF : F = dst c (T n) + FW T s (T n) (clr S n)) (hF2 : F < 2147483648) : mnI (nI (FWm T s c S n)) (nI F) = nI (FWm T s c S (n + 1)) := by
  have l := FWm_le (T := T) (s := s) (c := c) (S := S) n
  have e : FWm T s c S (n + 1) = (if F < FWm T s c S n then F else FWm T s c S n) := by
    show (if S.testBit n = true then _ else _) = _
    rw [if_pos hb, hF]; rfl
  rw [e]
  unfold mnI
  by_cases q : F < FWm T s c S n
  · rw [if_pos q, if_pos ((nI_ltI (by omega) (by omega)).mpr q)]
  · rw [if_neg q, if_neg (fun z => q ((nI_ltI (by omega) (by omega)).mp z))]
theorem FWm_f {T : Nat → Nat} {s c S n : Nat} (hb : ¬ S.testBit n = true) : FWm T s c S n = FWm T s c S (n + 1) := (if_neg hb).symm
theorem p2_32 {s : Nat} (hs : s ≤ 5) : p2 s ≤ 32 ∧ p2 s = 2 ^ s := ⟨(p2_e s (by omega)).2.1, rfl⟩
theorem FW_40 {T : Nat → Nat} {s c S : Nat} (hs : s ≤ 5) (hT : tOK T s) (hc : c < 25) (hS : S < p2 s) : FW T s c S ≤ 40 := by
  have a := FW_bd hs hT (cd S) S c (Nat.le_refl _) hS hc
  have b := (cd_0 S (by have := p2_32 hs; omega)).1
  omega
set_option maxHeartbeats 4000000 in
set_option maxRecDepth 100000 in
theorem cx_X6_apart {l : Launch} {w : Kw} (hw : wOk w) {a b : Nat} (ha : a < 25) (hb : b < 25) (h : xI) (g : xJ)  : Ct l w yX6_apart cX6_apart 2 (some .int) 1 21 [.int (nI (a)), .int (nI (b))] h g (px (some (.int (nI (dst a b)))) h g) := by
  refine Ct_of (ls := [some (.int (nI (a))), some (.int (nI (b)))]) (by decide) hw (Nat.le_of_ble_eq_true rfl) rfl (fun k hkl C => ?_)
  have C : Cx k w cX6_apart RX6 2 (some .int) 1 21 := C
  have D := dtX6_apart
  subst hkl
  refine X_iload_n C 0 (D (0, .iload_n 0, 1) (mg 0 rfl)) rfl rfl ?_
  refine X_iconst (v := nI (5)) C (D (1, .iconst 5, 1) (mg 1 rfl)) (by decide) ?_
  refine X_idiv C (D (2, .idiv, 1) (mg 2 rfl)) (by decide) ?_
  refine X_ti (y := nI ((a) / (5))) (pk_div (by omega) (by omega) (by omega)) ?_
  refine X_iload_n C 1 (D (3, .iload_n 1, 1) (mg 3 rfl)) rfl rfl ?_
  refine X_iconst (v := nI (5)) C (D (4, .iconst 5, 1) (mg 4 rfl)) (by decide) ?_
  refine X_idiv C (D (5, .idiv, 1) (mg 5 rfl)) (by decide) ?_
  refine X_ti (y := nI ((b) / (5))) (pk_div (by omega) (by omega) (by omega)) ?_
  refine X_isub C (D (6, .isub, 1) (mg 6 rfl)) ?_
  refine X_mabs (st := []) C kX6_37 (by decide) (by decide) (Nat.le_of_ble_eq_true rfl) rfl (D (7, .invokestatic 37, 3) (mg 7 rfl)) ?_
  refine X_iload_n C 0 (D (10, .iload_n 0, 1) (mg 8 rfl)) rfl rfl ?_
  refine X_iconst (v := nI (5)) C (D (11, .iconst 5, 1) (mg 9 rfl)) (by decide) ?_
  refine X_irem C (D (12, .irem, 1) (mg 10 rfl)) (by decide) ?_
  refine X_ti (y := nI ((a) % (5))) (pk_rem (by omega) (by omega) (by omega)) ?_
  refine X_iload_n C 1 (D (13, .iload_n 1, 1) (mg 11 rfl)) rfl rfl ?_
  refine X_iconst (v := nI (5)) C (D (14, .iconst 5, 1) (mg 12 rfl)) (by decide) ?_
  refine X_irem C (D (15, .irem, 1) (mg 13 rfl)) (by decide) ?_
  refine X_ti (y := nI ((b) % (5))) (pk_rem (by omega) (by omega) (by omega)) ?_
  refine X_isub C (D (16, .isub, 1) (mg 14 rfl)) ?_
  refine X_mabs (st := [.int (abI ((nI ((a) / (5))) - (nI ((b) / (5)))))]) C kX6_37 (by decide) (by decide) (Nat.le_of_ble_eq_true rfl) rfl (D (17, .invokestatic 37, 3) (mg 15 rfl)) ?_
  refine X_iadd C (D (20, .iadd, 1) (mg 16 rfl)) ?_
  exact X_iret C (D (21, .ireturn, 1) (mg 17 rfl)) ⟨congrArg (fun z => some (Value.int z)) (ap_e a ha b hb), rfl, rfl⟩
set_option maxHeartbeats 4000000 in
set_option maxRecDepth 100000 in
theorem cx_X6_without {l : Launch} {w : Kw} (hw : wOk w) {y : Nat} (hY : shY w y) {s : Nat} (hs : s ≤ 5) {T : Nat → Nat} (hT : tOK T s) (hD : dis T s) {S c : Nat} (hS : S < p2 s) (hc : c < 25) (h : xI) (g : xJ) (hb : h y 2 = nI s) (hto : ∀ k, k < s → h (y + 1) k = nI (T k)) : Ct l w yX6_without cX6_without 4 (some .int) 0 0 [.ref (wA w (y)), .int (nI (S)), .int (nI (c))] h g (px (some (.int (nI (woF T c s S)))) h g) := by
  refine Ct_of (ls := [some (.ref (wA w (y))), some (.int (nI (S))), some (.int (nI (c))), none]) (by decide) hw (Nat.le_of_ble_eq_true rfl) rfl (fun k hkl C => ?_)
  have C : Cx k w cX6_without RX6 4 (some .int) 0 0 := C
  have D := dtX6_without
  subst hkl
  have hY0 := hY
  obtain ⟨hyn, hsy, hy1, hy2⟩ := hY
  have hY := hY0
  have hp32 := p2_32 hs
  refine X_iconst (v := nI (0)) C (D (0, .iconst 0, 1) (mg 0 rfl)) (by decide) ?_
  refine X_istore_n (ls' := [some (.ref (wA w (y))), some (.int (nI (S))), some (.int (nI (c))), some (.int (nI (0)))]) C 3 (D (1, .istore_n 3, 1) (mg 1 rfl)) rfl (Nat.le_of_ble_eq_true rfl) rfl ?_
  have lp2 : ∀ (nn2 : Nat) (j : Nat), (j ≤ s) → (∀ k, k < j → T k ≠ c) → 6 - j ≤ nn2 → X k w (Zq k w (px (some (.int (nI (woF T c s S)))) h g)) 2 [some (.ref (wA w (y))), some (.int (nI (S))), some (.int (nI (c))), some (.int (nI (j)))] [] h g := by
    intro nn2
    induction nn2 with
    | zero => intro j hc2_0 hc2_1 hz; exact absurd hz (by omega)
    | succ nn2 ih2 =>
      intro j hc2_0 hc2_1 hz2
      refine X_iload_n C 3 (D (2, .iload_n 3, 1) (mg 2 rfl)) rfl rfl ?_
      refine X_aload_n C 0 (D (3, .aload_n 0, 1) (mg 3 rfl)) rfl rfl ?_
      refine X_get (v := .int (h (y) 2)) C (y) 2 (by omega) hsy rfl rfl (by decide) inX6 fX6_18 rfl (D (4, .getfield 18, 3) (mg 4 rfl)) rfl ?_
      refine X_ti (y := nI (s)) (hb) ?_
      refine X_icmp_ge (tgt := 34) C (D (7, .if_icmp .ge 27, 3) (mg 5 rfl)) (by decide) (fun q1 => ?_) (fun q1 => ?_)
      · skip
        have q1 : (j) ≥ (s) := by have z := (nI_leI (a := (s)) (b := (j)) (by omega) (by omega)).mp q1; omega
        refine X_iload_n C 1 (D (34, .iload_n 1, 1) (mg 22 rfl)) rfl rfl ?_
        exact X_iret C (D (35, .ireturn, 1) (mg 23 rfl)) ⟨by rw [wo_n hD (fun k hk => hc2_1 k (by omega))], rfl, rfl⟩
      · skip
        have q1 : (j) < (s) := by have z : ¬ ((s) ≤ (j)) := fun u => q1 ((nI_leI (a := (s)) (b := (j)) (by omega) (by omega)).mpr u); omega
        refine X_aload_n C 0 (D (10, .aload_n 0, 1) (mg 6 rfl)) rfl rfl ?_
        refine X_get (v := .ref (wA w (y + 1))) C (y) 0 (by omega) hsy rfl rfl (by decide) inX6 fX6_9 rfl (D (11, .getfield 9, 3) (mg 7 rfl)) rfl ?_
        refine X_iload_n C 3 (D (14, .iload_n 3, 1) (mg 8 rfl)) rfl rfl ?_
        refine X_iald (v := h (y + 1) (j)) C (y + 1) (by omega) hy1 (vp_in_nI (by omega) (by omega)) (D (15, .iaload, 1) (mg 9 rfl)) (by rw [nI_clamp (by omega)]) ?_
        refine X_ti (y := nI (T (j))) (hto j (by omega)) ?_
        have hTj_ := hT j (by omega)
        refine X_iload_n C 2 (D (16, .iload_n 2, 1) (mg 10 rfl)) rfl rfl ?_
        refine X_icmp_ne (tgt := 28) C (D (17, .if_icmp .ne 11, 3) (mg 11 rfl)) (by decide) (fun q2 => ?_) (fun q2 => ?_)
        · skip
          have q2 : (T (j)) ≠ (c) := by have z : ¬ ((T (j)) = (c)) := fun u => q2 ((nI_eq (a := (T (j))) (b := (c)) (by omega) (by omega)).mpr u); omega
          refine X_iinc (v := nI (j + 1)) (ls' := [some (.ref (wA w (y))), some (.int (nI (S))), some (.int (nI (c))), some (.int (nI (j + 1)))]) C (D (28, .iinc 3 1, 3) (mg 20 rfl)) rfl (nI_add (j) 1) rfl ?_
          refine X_goto (tgt := 2) C (D (31, .goto (-29), 3) (mg 21 rfl)) (by decide) ?_
          refine X_eq (ls' := [some (.ref (wA w (y))), some (.int (nI (S))), some (.int (nI (c))), some (.int (nI (j + 1)))]) (st' := []) (h' := h) (g' := g) rfl rfl rfl rfl ?_
          exact ih2 (j + 1) (by omega) (al_s hc2_1 (by assumption)) (by omega)
        · skip
          have q2 : (T (j)) = (c) := by have z := (nI_eq (a := (T (j))) (b := (c)) (by omega) (by omega)).mp q2; omega
          refine X_iload_n C 1 (D (20, .iload_n 1, 1) (mg 12 rfl)) rfl rfl ?_
          refine X_iconst (v := nI (1)) C (D (21, .iconst 1, 1) (mg 13 rfl)) (by decide) ?_
          refine X_iload_n C 3 (D (22, .iload_n 3, 1) (mg 14 rfl)) rfl rfl ?_
          refine X_ishl C (D (23, .ishl, 1) (mg 15 rfl)) ?_
          refine X_iconst (v := (-1 : Int32)) C (D (24, .iconst (-1), 1) (mg 16 rfl)) (by decide) ?_
          refine X_ixor C (D (25, .ixor, 1) (mg 17 rfl)) ?_
          refine X_iand C (D (26, .iand, 1) (mg 18 rfl)) ?_
          refine X_ti (y := nI (clr (S) (j))) (clr_e _ (by omega) _ (by omega)).2 ?_
          exact X_iret C (D (27, .ireturn, 1) (mg 19 rfl)) ⟨by rw [wo_m hs (by omega) hD (by omega) (by assumption)], rfl, rfl⟩
  refine X_eq (ls' := [some (.ref (wA w (y))), some (.int (nI (S))), some (.int (nI (c))), some (.int (nI (0)))]) (st' := []) (h' := h) (g' := g) rfl rfl rfl rfl ?_
  exact lp2 _ (0) (by omega) (fun k hk => absurd hk (by omega)) (Nat.le_refl _)
set_option maxHeartbeats 4000000 in
set_option maxRecDepth 100000 in
theorem cx_X6_fewest {l : Launch} {w : Kw} (hw : wOk w) {y : Nat} (hY : shY w y) {s : Nat} (hs : s ≤ 5) {T : Nat → Nat} (hT : tOK T s) (hD : dis T s) {c S : Nat} (hc : c < 25) (hS : S < p2 s) (h : xI) (g : xJ) (hb : h y 2 = nI s) (hto : ∀ k, k < s → h (y + 1) k = nI (T k)) (hre : ∀ e, e < S → ∀ i, i < s → h (y + 2) (e * 5 + i) = nI (FW T s (T i) e)) : Ct l w yX6_fewest cX6_fewest 6 (some .int) 2 42 [.ref (wA w (y)), .int (nI (c)), .int (nI (S))] h g (px (some (.int (nI (FW T s c S)))) h g) := by
  refine Ct_of (ls := [some (.ref (wA w (y))), some (.int (nI (c))), some (.int (nI (S))), none, none, none]) (by decide) hw (Nat.le_of_ble_eq_true rfl) rfl (fun k hkl C => ?_)
  have C : Cx k w cX6_fewest RX6 6 (some .int) 2 42 := C
  have D := dtX6_fewest
  subst hkl
  have hY0 := hY
  obtain ⟨hyn, hsy, hy1, hy2⟩ := hY
  have hY := hY0
  have hp32 := p2_32 hs
  refine X_iload_n C 2 (D (0, .iload_n 2, 1) (mg 0 rfl)) rfl rfl ?_
  refine X_if_ne (tgt := 6) C (D (1, .ifCond .ne 5, 3) (mg 1 rfl)) (by decide) (fun q1 => ?_) (fun q1 => ?_)
  · skip
    have q1 : (S) ≠ (0) := by have z : ¬ ((S) = (0)) := fun u => q1 ((nI_eq (a := (S)) (b := (0)) (by omega) (by omega)).mpr u); omega
    refine X_sipush (v := nI (1000)) C (D (6, .sipush 1000, 3) (mg 4 rfl)) (by decide) ?_
    refine X_istore_n (ls' := [some (.ref (wA w (y))), some (.int (nI (c))), some (.int (nI (S))), some (.int (nI (1000))), none, none]) C 3 (D (9, .istore_n 3, 1) (mg 5 rfl)) rfl (Nat.le_of_ble_eq_true rfl) rfl ?_
    refine X_iconst (v := nI (0)) C (D (10, .iconst 0, 1) (mg 6 rfl)) (by decide) ?_
    refine X_istore (ls' := [some (.ref (wA w (y))), some (.int (nI (c))), some (.int (nI (S))), some (.int (nI (1000))), some (.int (nI (0))), none]) C (D (11, .istore 4, 2) (mg 7 rfl)) (Nat.le_of_ble_eq_true rfl) rfl ?_
    have lp13 : ∀ (nn13 : Nat) (j : Nat), (j ≤ s) → 6 - j ≤ nn13 → X k w (Zq k w (px (some (.int (nI (FW T s c S)))) h g)) 13 [some (.ref (wA w (y))), some (.int (nI (c))), some (.int (nI (S))), some (.int (nI (FWm T s c S (j)))), some (.int (nI (j))), none] [] h g := by
      intro nn13
      induction nn13 with
      | zero => intro j hc13_0 hz; exact absurd hz (by omega)
      | succ nn13 ih13 =>
        intro j hc13_0 hz13
        refine X_iload C (D (13, .iload 4, 2) (mg 8 rfl)) rfl ?_
        refine X_aload_n C 0 (D (15, .aload_n 0, 1) (mg 9 rfl)) rfl rfl ?_
        refine X_get (v := .int (h (y) 2)) C (y) 2 (by omega) hsy rfl rfl (by decide) inX6 fX6_18 rfl (D (16, .getfield 18, 3) (mg 10 rfl)) rfl ?_
        refine X_ti (y := nI (s)) (hb) ?_
        refine X_icmp_ge (tgt := 77) C (D (19, .if_icmp .ge 58, 3) (mg 11 rfl)) (by decide) (fun q2 => ?_) (fun q2 => ?_)
        · skip
          have q2 : (j) ≥ (s) := by have z := (nI_leI (a := (s)) (b := (j)) (by omega) (by omega)).mp q2; omega
          refine X_iload_n C 3 (D (77, .iload_n 3, 1) (mg 47 rfl)) rfl rfl ?_
          exact X_iret C (D (78, .ireturn, 1) (mg 48 rfl)) ⟨by rw [FW_s hs hS (by omega), show j = s by omega]; rfl, rfl, rfl⟩
        · skip
          have q2 : (j) < (s) := by have z : ¬ ((s) ≤ (j)) := fun u => q2 ((nI_leI (a := (s)) (b := (j)) (by omega) (by omega)).mpr u); omega
          refine X_iload_n C 2 (D (22, .iload_n 2, 1) (mg 12 rfl)) rfl rfl ?_
          refine X_iload C (D (23, .iload 4, 2) (mg 13 rfl)) rfl ?_
          refine X_ishr C (D (25, .ishr, 1) (mg 14 rfl)) ?_
          refine X_iconst (v := nI (1)) C (D (26, .iconst 1, 1) (mg 15 rfl)) (by decide) ?_
          refine X_iand C (D (27, .iand, 1) (mg 16 rfl)) ?_
          refine X_iconst (v := nI (1)) C (D (28, .iconst 1, 1) (mg 17 rfl)) (by decide) ?_
          refine X_icmp_ne (tgt := 71) C (D (29, .if_icmp .ne 42, 3) (mg 18 rfl)) (by decide) (fun q3 => ?_) (fun q3 => ?_)
          · skip
            have hbit_ : ¬ S.testBit j = true := fun u_ => q3 ((tb_n (by omega) (by omega)).mpr u_)
            refine X_iinc (v := nI (j + 1)) (ls' := [some (.ref (wA w (y))), some (.int (nI (c))), some (.int (nI (S))), some (.int (nI (FWm T s c S (j)))), some (.int (nI (j + 1))), none]) C (D (71, .iinc 4 1, 3) (mg 45 rfl)) rfl (nI_add (j) 1) rfl ?_
            refine X_goto (tgt := 13) C (D (74, .goto (-61), 3) (mg 46 rfl)) (by decide) ?_
            refine X_eq (ls' := [some (.ref (wA w (y))), some (.int (nI (c))), some (.int (nI (S))), some (.int (nI (FWm T s c S (j + 1)))), some (.int (nI (j + 1))), none]) (st' := []) (h' := h) (g' := g) (by rw [show FWm T s c S (j) = FWm T s c S (j + 1) from FWm_f hbit_]) rfl rfl rfl ?_
            exact ih13 (j + 1) (by omega) (by omega)
          · skip
            have hbit_ : S.testBit j = true := (tb_n (by omega) (by omega)).mp q3
            have hcl_ := (cl_1 S (by omega) j (by omega) hbit_).1
            have hTj_ := hT j (by omega)
            have hF4_ := FW_40 (c := T j) (S := clr S j) hs hT hTj_ (by omega)
            have hd8_ := ds_8 hc hTj_
            refine X_iload_n C 2 (D (32, .iload_n 2, 1) (mg 19 rfl)) rfl rfl ?_
            refine X_iconst (v := nI (1)) C (D (33, .iconst 1, 1) (mg 20 rfl)) (by decide) ?_
            refine X_iload C (D (34, .iload 4, 2) (mg 21 rfl)) rfl ?_
            refine X_ishl C (D (36, .ishl, 1) (mg 22 rfl)) ?_
            refine X_iconst (v := (-1 : Int32)) C (D (37, .iconst (-1), 1) (mg 23 rfl)) (by decide) ?_
            refine X_ixor C (D (38, .ixor, 1) (mg 24 rfl)) ?_
            refine X_iand C (D (39, .iand, 1) (mg 25 rfl)) ?_
            refine X_ti (y := nI (clr (S) (j))) (clr_e _ (by omega) _ (by omega)).2 ?_
            refine X_istore (ls' := [some (.ref (wA w (y))), some (.int (nI (c))), some (.int (nI (S))), some (.int (nI (FWm T s c S (j)))), some (.int (nI (j))), some (.int (nI (clr (S) (j))))]) C (D (40, .istore 5, 2) (mg 26 rfl)) (Nat.le_of_ble_eq_true rfl) rfl ?_
            refine X_iload_n C 3 (D (42, .iload_n 3, 1) (mg 27 rfl)) rfl rfl ?_
            refine X_iload_n C 1 (D (43, .iload_n 1, 1) (mg 28 rfl)) rfl rfl ?_
            refine X_aload_n C 0 (D (44, .aload_n 0, 1) (mg 29 rfl)) rfl rfl ?_
            refine X_get (v := .ref (wA w (y + 1))) C (y) 0 (by omega) hsy rfl rfl (by decide) inX6 fX6_9 rfl (D (45, .getfield 9, 3) (mg 30 rfl)) rfl ?_
            refine X_iload C (D (48, .iload 4, 2) (mg 31 rfl)) rfl ?_
            refine X_iald (v := h (y + 1) (j)) C (y + 1) (by omega) hy1 (vp_in_nI (by omega) (by omega)) (D (50, .iaload, 1) (mg 32 rfl)) (by rw [nI_clamp (by omega)]) ?_
            refine X_ti (y := nI (T (j))) (hto j (by omega)) ?_
            refine X_cS (As := [.int (nI (c)), .int (nI (T (j)))]) (st := [.int (nI (FWm T s c S (j)))]) C (post := _) (cx_X6_apart hw (a := c) (b := T (j)) (by omega) (by omega) h g) kX6_29 (by decide) (by decide) rfl rfl (Nat.le_of_ble_eq_true rfl) (D (51, .invokestatic 29, 3) (mg 33 rfl)) rfl (fun v6 H4 G5 hv6 => ?_)
            obtain ⟨rfl, rfl, rfl⟩ := hv6
            show X k w _ 54 [some (.ref (wA w (y))), some (.int (nI (c))), some (.int (nI (S))), some (.int (nI (FWm T s c S (j)))), some (.int (nI (j))), some (.int (nI (clr (S) (j))))] [.int (nI (dst (c) (T (j)))), .int (nI (FWm T s c S (j)))] h g
            refine X_aload_n C 0 (D (54, .aload_n 0, 1) (mg 34 rfl)) rfl rfl ?_
            refine X_get (v := .ref (wA w (y + 2))) C (y) 1 (by omega) hsy rfl rfl (by decide) inX6 fX6_15 rfl (D (55, .getfield 15, 3) (mg 35 rfl)) rfl ?_
            refine X_iload C (D (58, .iload 5, 2) (mg 36 rfl)) rfl ?_
            refine X_iconst (v := nI (5)) C (D (60, .iconst 5, 1) (mg 37 rfl)) (by decide) ?_
            refine X_imul C (D (61, .imul, 1) (mg 38 rfl)) ?_
            refine X_ti (y := nI ((clr (S) (j)) * (5))) (pk_mul (clr (S) (j)) (5)) ?_
            refine X_iload C (D (62, .iload 4, 2) (mg 39 rfl)) rfl ?_
            refine X_iadd C (D (64, .iadd, 1) (mg 40 rfl)) ?_
            refine X_ti (y := nI ((clr (S) (j)) * (5) + j)) (nI_add ((clr (S) (j)) * (5)) (j)) ?_
            refine X_iald (v := h (y + 2) ((clr (S) (j)) * (5) + j)) C (y + 2) (by omega) hy2 (vp_in_nI (by omega) (by omega)) (D (65, .iaload, 1) (mg 41 rfl)) (by rw [nI_clamp (by omega)]) ?_
            refine X_ti (y := nI (FW T s (T (j)) (clr (S) (j)))) (hre _ (by omega) j (by omega)) ?_
            refine X_iadd C (D (66, .iadd, 1) (mg 42 rfl)) ?_
            refine X_ti (y := nI (dst (c) (T (j)) + FW T s (T (j)) (clr (S) (j)))) (nI_add (dst (c) (T (j))) (FW T s (T (j)) (clr (S) (j)))) ?_
            refine X_mmin (st := []) C kX6_32 (by decide) (by decide) (Nat.le_of_ble_eq_true rfl) rfl (D (67, .invokestatic 32, 3) (mg 43 rfl)) ?_
            refine X_istore_n (ls' := [some (.ref (wA w (y))), some (.int (nI (c))), some (.int (nI (S))), some (.int (mnI (nI (FWm T s c S (j))) (nI (dst (c) (T (j)) + FW T s (T (j)) (clr (S) (j)))))), some (.int (nI (j))), some (.int (nI (clr (S) (j))))]) C 3 (D (70, .istore_n 3, 1) (mg 44 rfl)) rfl (Nat.le_of_ble_eq_true rfl) rfl ?_
            refine X_iinc (v := nI (j + 1)) (ls' := [some (.ref (wA w (y))), some (.int (nI (c))), some (.int (nI (S))), some (.int (mnI (nI (FWm T s c S (j))) (nI (dst (c) (T (j)) + FW T s (T (j)) (clr (S) (j)))))), some (.int (nI (j + 1))), some (.int (nI (clr (S) (j))))]) C (D (71, .iinc 4 1, 3) (mg 45 rfl)) rfl (nI_add (j) 1) rfl ?_
            refine X_goto (tgt := 13) C (D (74, .goto (-61), 3) (mg 46 rfl)) (by decide) ?_
            refine X_los (ls' := [some (.ref (wA w (y))), some (.int (nI (c))), some (.int (nI (S))), some (.int (mnI (nI (FWm T s c S (j))) (nI (dst (c) (T (j)) + FW T s (T (j)) (clr (S) (j)))))), some (.int (nI (j + 1))), none]) (by simp [lsub]) ?_
            refine X_eq (ls' := [some (.ref (wA w (y))), some (.int (nI (c))), some (.int (nI (S))), some (.int (nI (FWm T s c S (j + 1)))), some (.int (nI (j + 1))), none]) (st' := []) (h' := h) (g' := g) (by rw [show mnI (nI (FWm T s c S (j))) (nI (dst (c) (T (j)) + FW T s (T (j)) (clr (S) (j)))) = nI (FWm T s c S (j + 1)) from FWm_t hbit_ rfl (by omega)]) rfl rfl rfl ?_
            exact ih13 (j + 1) (by omega) (by omega)
    refine X_eq (ls' := [some (.ref (wA w (y))), some (.int (nI (c))), some (.int (nI (S))), some (.int (nI (FWm T s c S (0)))), some (.int (nI (0))), none]) (st' := []) (h' := h) (g' := g) rfl rfl rfl rfl ?_
    exact lp13 _ (0) (by omega) (Nat.le_refl _)
  · skip
    have q1 : (S) = (0) := by have z := (nI_eq (a := (S)) (b := (0)) (by omega) (by omega)).mp q1; omega
    refine X_iconst (v := nI (0)) C (D (4, .iconst 0, 1) (mg 2 rfl)) (by decide) ?_
    exact X_iret C (D (5, .ireturn, 1) (mg 3 rfl)) ⟨by rw [show S = 0 by omega, FW_0], rfl, rfl⟩
set_option maxHeartbeats 4000000 in
set_option maxRecDepth 100000 in
theorem cx_X6_fewestFrom {l : Launch} {w : Kw} (hw : wOk w) {y : Nat} (hY : shY w y) {s : Nat} (hs : s ≤ 5) {T : Nat → Nat} (hT : tOK T s) (hD : dis T s) {c : Nat} (hc : c < 25) (h : xI) (g : xJ) (hb : h y 2 = nI s) (hto : ∀ k, k < s → h (y + 1) k = nI (T k)) (hre : ∀ e, e < p2 s → ∀ i, i < s → h (y + 2) (e * 5 + i) = nI (FW T s (T i) e)) : Ct l w yX6_fewestFrom cX6_fewestFrom 2 (some .int) 3 67 [.ref (wA w (y)), .int (nI (c))] h g (px (some (.int (nI (FW T s c (woF T c s (p2 s - 1)))))) h g) := by
  refine Ct_of (ls := [some (.ref (wA w (y))), some (.int (nI (c)))]) (by decide) hw (Nat.le_of_ble_eq_true rfl) rfl (fun k hkl C => ?_)
  have C : Cx k w cX6_fewestFrom RX6 2 (some .int) 3 67 := C
  have D := dtX6_fewestFrom
  subst hkl
  have hY0 := hY
  obtain ⟨hyn, hsy, hy1, hy2⟩ := hY
  have hY := hY0
  have hp32 := p2_32 hs
  have hp2 := p2_e s (by omega)
  refine X_aload_n C 0 (D (0, .aload_n 0, 1) (mg 0 rfl)) rfl rfl ?_
  refine X_iload_n C 1 (D (1, .iload_n 1, 1) (mg 1 rfl)) rfl rfl ?_
  refine X_aload_n C 0 (D (2, .aload_n 0, 1) (mg 2 rfl)) rfl rfl ?_
  refine X_iconst (v := nI (1)) C (D (3, .iconst 1, 1) (mg 3 rfl)) (by decide) ?_
  refine X_aload_n C 0 (D (4, .aload_n 0, 1) (mg 4 rfl)) rfl rfl ?_
  refine X_get (v := .int (h (y) 2)) C (y) 2 (by omega) hsy rfl rfl (by decide) inX6 fX6_18 rfl (D (5, .getfield 18, 3) (mg 5 rfl)) rfl ?_
  refine X_ti (y := nI (s)) (hb) ?_
  refine X_ishl C (D (8, .ishl, 1) (mg 6 rfl)) ?_
  refine X_ti (y := nI (p2 (s))) (p2_e _ (by omega)).2.2 ?_
  refine X_iconst (v := nI (1)) C (D (9, .iconst 1, 1) (mg 7 rfl)) (by decide) ?_
  refine X_isub C (D (10, .isub, 1) (mg 8 rfl)) ?_
  refine X_ti (y := nI (p2 (s) - 1)) (pk_sub (by omega)) ?_
  refine X_iload_n C 1 (D (11, .iload_n 1, 1) (mg 9 rfl)) rfl rfl ?_
  refine X_cV (As := [.int (nI (p2 (s) - 1)), .int (nI (c))]) (st := [.int (nI (c)), .ref (wA w (y))]) C (post := _) (y) (by omega) hsy rfl (cx_X6_without hw (y := y) hY (s := s) hs (T := T) hT hD (S := p2 (s) - 1) (c := c) (by omega) (by omega) h g hb hto) kX6_26 (by decide) (by decide) rfl rfl (Nat.le_of_ble_eq_true rfl) (D (12, .invokevirtual 26, 3) (mg 10 rfl)) rfl (fun v3 H1 G2 hv3 => ?_)
  obtain ⟨rfl, rfl, rfl⟩ := hv3
  show X k w _ 15 [some (.ref (wA w (y))), some (.int (nI (c)))] [.int (nI (woF T (c) s (p2 (s) - 1))), .int (nI (c)), .ref (wA w (y))] h g
  have hw_ : woF T (c) s (p2 (s) - 1) < p2 s := (wo3_lt hs (by omega) (woF_3 s))
  refine X_cV (As := [.int (nI (c)), .int (nI (woF T (c) s (p2 (s) - 1)))]) (st := []) C (post := _) (y) (by omega) hsy rfl (cx_X6_fewest hw (y := y) hY (s := s) hs (T := T) hT hD (c := c) (S := woF T (c) s (p2 (s) - 1)) (by omega) (wo3_lt hs (by omega) (woF_3 s)) h g hb hto (fun e he i hi => hre e (by omega) i hi)) kX6_22 (by decide) (by decide) rfl rfl (Nat.le_of_ble_eq_true rfl) (D (15, .invokevirtual 22, 3) (mg 11 rfl)) rfl (fun v6 H4 G5 hv6 => ?_)
  obtain ⟨rfl, rfl, rfl⟩ := hv6
  show X k w _ 18 [some (.ref (wA w (y))), some (.int (nI (c)))] [.int (nI (FW T s (c) (woF T (c) s (p2 (s) - 1))))] h g
  exact X_iret C (D (18, .ireturn, 1) (mg 12 rfl)) ⟨rfl, rfl, rfl⟩
set_option maxHeartbeats 4000000 in
set_option maxRecDepth 100000 in
theorem cx_X6_firstStep {l : Launch} {w : Kw} (hw : wOk w) {y : Nat} (hY : shY w y) {s : Nat} (hs : s ≤ 5) {T : Nat → Nat} (hT : tOK T s) (hD : dis T s) {c S : Nat} (hc : c < 25) (hS : S < p2 s) (h0 : ¬ S = 0) (hk : cns T s S c) (h : xI) (g : xJ) (hb : h y 2 = nI s) (hto : ∀ k, k < s → h (y + 1) k = nI (T k)) (hre : ∀ e, e < p2 s → ∀ i, i < s → h (y + 2) (e * 5 + i) = nI (FW T s (T i) e)) : Ct l w yX6_firstStep cX6_firstStep 6 (some .int) 3 67 [.ref (wA w (y)), .int (nI (c)), .int (nI (S))] h g (pP (fun z => ∃ i, z = nI i ∧ fsN T s c S i) h g) := by
  refine Ct_of (ls := [some (.ref (wA w (y))), some (.int (nI (c))), some (.int (nI (S))), none, none, none]) (by decide) hw (Nat.le_of_ble_eq_true rfl) rfl (fun k hkl C => ?_)
  have C : Cx k w cX6_firstStep RX6 6 (some .int) 3 67 := C
  have D := dtX6_firstStep
  subst hkl
  have hY0 := hY
  obtain ⟨hyn, hsy, hy1, hy2⟩ := hY
  have hY := hY0
  have hp32 := p2_32 hs
  have hfc_ := FW_40 (c := c) (S := S) hs hT hc hS
  obtain ⟨ig_, hig_, hgg_⟩ := gd_ex hs hT hc hS h0 hk
  have hf1_ := hgg_.2
  refine X_aload_n C 0 (D (0, .aload_n 0, 1) (mg 0 rfl)) rfl rfl ?_
  refine X_iload_n C 1 (D (1, .iload_n 1, 1) (mg 1 rfl)) rfl rfl ?_
  refine X_iload_n C 2 (D (2, .iload_n 2, 1) (mg 2 rfl)) rfl rfl ?_
  refine X_cV (As := [.int (nI (c)), .int (nI (S))]) (st := []) C (post := _) (y) (by omega) hsy rfl (cx_X6_fewest hw (y := y) hY (s := s) hs (T := T) hT hD (c := c) (S := S) (by omega) (by omega) h g hb hto (fun e he i hi => hre e (by omega) i hi)) kX6_22 (by decide) (by decide) rfl rfl (Nat.le_of_ble_eq_true rfl) (D (3, .invokevirtual 22, 3) (mg 3 rfl)) rfl (fun v3 H1 G2 hv3 => ?_)
  obtain ⟨rfl, rfl, rfl⟩ := hv3
  show X k w _ 6 [some (.ref (wA w (y))), some (.int (nI (c))), some (.int (nI (S))), none, none, none] [.int (nI (FW T s (c) (S)))] h g
  refine X_istore_n (ls' := [some (.ref (wA w (y))), some (.int (nI (c))), some (.int (nI (S))), some (.int (nI (FW T s (c) (S)))), none, none]) C 3 (D (6, .istore_n 3, 1) (mg 4 rfl)) rfl (Nat.le_of_ble_eq_true rfl) rfl ?_
  refine X_iconst (v := nI (0)) C (D (7, .iconst 0, 1) (mg 5 rfl)) (by decide) ?_
  refine X_istore (ls' := [some (.ref (wA w (y))), some (.int (nI (c))), some (.int (nI (S))), some (.int (nI (FW T s (c) (S)))), some (.int (nI (0))), none]) C (D (8, .istore 4, 2) (mg 6 rfl)) (Nat.le_of_ble_eq_true rfl) rfl ?_
  have lp10 : ∀ (nn10 : Nat) (j : Nat), (j ≤ 4) → (∀ i, i < j → ¬ gdS T s c S i) → 5 - j ≤ nn10 → X k w (Zq k w (pP (fun z => ∃ i, z = nI i ∧ fsN T s c S i) h g)) 10 [some (.ref (wA w (y))), some (.int (nI (c))), some (.int (nI (S))), some (.int (nI (FW T s (c) (S)))), some (.int (nI (j))), none] [] h g := by
    intro nn10
    induction nn10 with
    | zero => intro j hc10_0 hc10_1 hz; exact absurd hz (by omega)
    | succ nn10 ih10 =>
      intro j hc10_0 hc10_1 hz10
      refine X_iload C (D (10, .iload 4, 2) (mg 7 rfl)) rfl ?_
      refine X_iconst (v := nI (4)) C (D (12, .iconst 4, 1) (mg 8 rfl)) (by decide) ?_
      refine X_icmp_ge (tgt := 58) C (D (13, .if_icmp .ge 45, 3) (mg 9 rfl)) (by decide) (fun q4 => ?_) (fun q4 => ?_)
      · skip
        have q4 : (j) ≥ (4) := by have z := (nI_leI (a := (4)) (b := (j)) (by omega) (by omega)).mp q4; omega
        obtain ⟨i_, hi_, hg_⟩ := gd_ex hs hT hc hS h0 hk
        refine X_iconst (v := (-1 : Int32)) C (D (58, .iconst (-1), 1) (mg 32 rfl)) (by decide) ?_
        exact X_iret C (D (59, .ireturn, 1) (mg 33 rfl)) (absurd hg_ (hc10_1 i_ (by omega)))
      · skip
        have q4 : (j) < (4) := by have z : ¬ ((4) ≤ (j)) := fun u => q4 ((nI_leI (a := (4)) (b := (j)) (by omega) (by omega)).mpr u); omega
        refine X_iload_n C 1 (D (16, .iload_n 1, 1) (mg 10 rfl)) rfl rfl ?_
        refine X_iload C (D (17, .iload 4, 2) (mg 11 rfl)) rfl ?_
        refine X_cN (As := [.int (nI (c)), .int (nI (j))]) (st := []) C (post := _) (ct_X7_beside hw (j := c) (by omega) (nI (j)) h g) kX6_44 (by decide) (by decide) rfl rfl (Nat.le_of_ble_eq_true rfl) (D (19, .invokestatic 44, 3) (mg 12 rfl)) rfl (fun v7 H5 G6 hv7 => ?_)
        obtain ⟨⟨y8, rfl, hy8, ey8⟩, rfl, rfl⟩ := hv7
        show X k w _ 22 [some (.ref (wA w (y))), some (.int (nI (c))), some (.int (nI (S))), some (.int (nI (FW T s (c) (S)))), some (.int (nI (j))), none] [.int (y8)] h g
        refine X_istore (ls' := [some (.ref (wA w (y))), some (.int (nI (c))), some (.int (nI (S))), some (.int (nI (FW T s (c) (S)))), some (.int (nI (j))), some (.int (y8))]) C (D (22, .istore 5, 2) (mg 13 rfl)) (Nat.le_of_ble_eq_true rfl) rfl ?_
        refine X_iload C (D (24, .iload 5, 2) (mg 14 rfl)) rfl ?_
        refine X_iconst (v := (-1 : Int32)) C (D (26, .iconst (-1), 1) (mg 15 rfl)) (by decide) ?_
        refine X_icmp_eq (tgt := 52) C (D (27, .if_icmp .eq 25, 3) (mg 16 rfl)) (by decide) (fun q9 => ?_) (fun q9 => ?_)
        · skip
          subst q9
          have hbN_ := bq_m (by omega) (by omega) ey8
          have hng_ : ¬ gdS T s c S j := fun u_ => hbN_ u_.1
          refine X_iinc (v := nI (j + 1)) (ls' := [some (.ref (wA w (y))), some (.int (nI (c))), some (.int (nI (S))), some (.int (nI (FW T s (c) (S)))), some (.int (nI (j + 1))), some (.int ((-1 : Int32)))]) C (D (52, .iinc 4 1, 3) (mg 30 rfl)) rfl (nI_add (j) 1) rfl ?_
          refine X_goto (tgt := 10) C (D (55, .goto (-45), 3) (mg 31 rfl)) (by decide) ?_
          refine X_los (ls' := [some (.ref (wA w (y))), some (.int (nI (c))), some (.int (nI (S))), some (.int (nI (FW T s (c) (S)))), some (.int (nI (j + 1))), none]) (by simp [lsub]) ?_
          refine X_eq (ls' := [some (.ref (wA w (y))), some (.int (nI (c))), some (.int (nI (S))), some (.int (nI (FW T s (c) (S)))), some (.int (nI (j + 1))), none]) (st' := []) (h' := h) (g' := g) rfl rfl rfl rfl ?_
          exact ih10 (j + 1) (by omega) (al_s hc10_1 hng_) (by omega)
        · skip
          obtain ⟨c10, hc10, rfl⟩ := hy8.resolve_left q9
          obtain ⟨hbs_, rfl⟩ := bq_c (by omega) (by omega) hc10 ey8
          have hw_ : woF T (bsN c j) s S < p2 s := wo3_lt hs hS (woF_3 s)
          have hf4_ := FW_40 (c := bsN c j) hs hT hbs_ hw_
          refine X_aload_n C 0 (D (30, .aload_n 0, 1) (mg 17 rfl)) rfl rfl ?_
          refine X_iload C (D (31, .iload 5, 2) (mg 18 rfl)) rfl ?_
          refine X_aload_n C 0 (D (33, .aload_n 0, 1) (mg 19 rfl)) rfl rfl ?_
          refine X_iload_n C 2 (D (34, .iload_n 2, 1) (mg 20 rfl)) rfl rfl ?_
          refine X_iload C (D (35, .iload 5, 2) (mg 21 rfl)) rfl ?_
          refine X_cV (As := [.int (nI (S)), .int (nI ((bsN c j)))]) (st := [.int (nI ((bsN c j))), .ref (wA w (y))]) C (post := _) (y) (by omega) hsy rfl (cx_X6_without hw (y := y) hY (s := s) hs (T := T) hT hD (S := S) (c := (bsN c j)) (by omega) (by omega) h g hb hto) kX6_26 (by decide) (by decide) rfl rfl (Nat.le_of_ble_eq_true rfl) (D (37, .invokevirtual 26, 3) (mg 22 rfl)) rfl (fun v13 H11 G12 hv13 => ?_)
          obtain ⟨rfl, rfl, rfl⟩ := hv13
          show X k w _ 40 [some (.ref (wA w (y))), some (.int (nI (c))), some (.int (nI (S))), some (.int (nI (FW T s (c) (S)))), some (.int (nI (j))), some (.int (nI ((bsN c j))))] [.int (nI (woF T ((bsN c j)) s (S))), .int (nI ((bsN c j))), .ref (wA w (y))] h g
          refine X_cV (As := [.int (nI ((bsN c j))), .int (nI (woF T ((bsN c j)) s (S)))]) (st := []) C (post := _) (y) (by omega) hsy rfl (cx_X6_fewest hw (y := y) hY (s := s) hs (T := T) hT hD (c := (bsN c j)) (S := woF T ((bsN c j)) s (S)) (by omega) (wo3_lt hs (by omega) (woF_3 s)) h g hb hto (fun e he i hi => hre e (by omega) i hi)) kX6_22 (by decide) (by decide) rfl rfl (Nat.le_of_ble_eq_true rfl) (D (40, .invokevirtual 22, 3) (mg 23 rfl)) rfl (fun v16 H14 G15 hv16 => ?_)
          obtain ⟨rfl, rfl, rfl⟩ := hv16
          show X k w _ 43 [some (.ref (wA w (y))), some (.int (nI (c))), some (.int (nI (S))), some (.int (nI (FW T s (c) (S)))), some (.int (nI (j))), some (.int (nI ((bsN c j))))] [.int (nI (FW T s ((bsN c j)) (woF T ((bsN c j)) s (S))))] h g
          refine X_iload_n C 3 (D (43, .iload_n 3, 1) (mg 24 rfl)) rfl rfl ?_
          refine X_iconst (v := nI (1)) C (D (44, .iconst 1, 1) (mg 25 rfl)) (by decide) ?_
          refine X_isub C (D (45, .isub, 1) (mg 26 rfl)) ?_
          refine X_ti (y := nI (FW T s (c) (S) - 1)) (pk_sub (by omega)) ?_
          refine X_icmp_ne (tgt := 52) C (D (46, .if_icmp .ne 6, 3) (mg 27 rfl)) (by decide) (fun q17 => ?_) (fun q17 => ?_)
          · skip
            have q17 : (FW T s ((bsN c j)) (woF T ((bsN c j)) s (S))) ≠ (FW T s (c) (S) - 1) := by have z : ¬ ((FW T s ((bsN c j)) (woF T ((bsN c j)) s (S))) = (FW T s (c) (S) - 1)) := fun u => q17 ((nI_eq (a := (FW T s ((bsN c j)) (woF T ((bsN c j)) s (S)))) (b := (FW T s (c) (S) - 1)) (by omega) (by omega)).mpr u); omega
            have hng_ : ¬ gdS T s c S j := fun u_ => by have a_ := u_.2; omega
            refine X_iinc (v := nI (j + 1)) (ls' := [some (.ref (wA w (y))), some (.int (nI (c))), some (.int (nI (S))), some (.int (nI (FW T s (c) (S)))), some (.int (nI (j + 1))), some (.int (nI ((bsN c j))))]) C (D (52, .iinc 4 1, 3) (mg 30 rfl)) rfl (nI_add (j) 1) rfl ?_
            refine X_goto (tgt := 10) C (D (55, .goto (-45), 3) (mg 31 rfl)) (by decide) ?_
            refine X_los (ls' := [some (.ref (wA w (y))), some (.int (nI (c))), some (.int (nI (S))), some (.int (nI (FW T s (c) (S)))), some (.int (nI (j + 1))), none]) (by simp [lsub]) ?_
            refine X_eq (ls' := [some (.ref (wA w (y))), some (.int (nI (c))), some (.int (nI (S))), some (.int (nI (FW T s (c) (S)))), some (.int (nI (j + 1))), none]) (st' := []) (h' := h) (g' := g) rfl rfl rfl rfl ?_
            exact ih10 (j + 1) (by omega) (al_s hc10_1 hng_) (by omega)
          · skip
            have q17 : (FW T s ((bsN c j)) (woF T ((bsN c j)) s (S))) = (FW T s (c) (S) - 1) := by have z := (nI_eq (a := (FW T s ((bsN c j)) (woF T ((bsN c j)) s (S)))) (b := (FW T s (c) (S) - 1)) (by omega) (by omega)).mp q17; omega
            refine X_iload C (D (49, .iload 4, 2) (mg 28 rfl)) rfl ?_
            exact X_iret C (D (51, .ireturn, 1) (mg 29 rfl)) ⟨⟨_, rfl, j, rfl, by omega, ⟨hbs_, by omega⟩, hc10_1⟩, rfl, rfl⟩
  refine X_eq (ls' := [some (.ref (wA w (y))), some (.int (nI (c))), some (.int (nI (S))), some (.int (nI (FW T s (c) (S)))), some (.int (nI (0))), none]) (st' := []) (h' := h) (g' := g) rfl rfl rfl rfl ?_
  exact lp10 _ (0) (by omega) (fun i hi => absurd hi (by omega)) (Nat.le_refl _)
