/-! THE REFERENCE, 10: which kinds fit -/
/-- 1 if all of the first n have P, else 0 -/
def alB (P : Nat → Prop) [DecidablePred P] : Nat → Int32
  | 0 => nI 1
  | n + 1 => if alB P n = 0 then nI 0 else if P n then nI 1 else nI 0
theorem alB_z {P : Nat → Prop} [DecidablePred P] {n : Nat} (h : alB P n = 0) : nI 0 = alB P (n + 1) := (if_pos h).symm
theorem alB_t {P : Nat → Prop} [DecidablePred P] {n : Nat} (h : ¬ alB P n = 0) (h2 : P n) : nI 1 = alB P (n + 1) := ((if_neg h).trans (if_pos h2)).symm
theorem alB_f {P : Nat → Prop} [DecidablePred P] {n : Nat} (h : ¬ alB P n = 0) (h2 : ¬ P n) : nI 0 = alB P (n + 1) := ((if_neg h).trans (if_neg h2)).symm
def alK (h : xI) (q kd : Nat) (n : Nat) : Int32 := alB (fun s => deA (nI kd) (h q (76 + 3 * s)) (h q (76 + 3 * s + 1)) = h q (76 + 3 * s + 2)) n
def alS (h : xI) (q : Nat) (c : Int32) (kd n : Nat) : Int32 := alB (fun s => ¬ h q (56 + 4 * s) = c ∨ hiA (nI kd) (h q (56 + 4 * s + 1)) (h q (56 + 4 * s + 2)) = h q (56 + 4 * s + 3)) n
set_option maxHeartbeats 4000000 in
set_option maxRecDepth 100000 in
theorem ct_X8_kindsOfHarrow {l : Launch} {w : Kw} (hw : wOk w) {m : Nat} (hM : shM w m) {n : Nat} (hn : n ≤ 6) (h : xI) (g : xJ) (hb : h (m + 1) 1 = nI n) : Ct l w yX8_kindsOfHarrow cX8_kindsOfHarrow 6 (some .int) 1 24 [.ref (wA w (m))] h g (px (some (.int (dpB (fun kd => ¬ alK h (m + 1) kd n = 0) 6))) h g) := by
  refine Ct_of (ls := [some (.ref (wA w (m))), none, none, none, none, none]) (by decide) hw (Nat.le_of_ble_eq_true rfl) rfl (fun k hkl C => ?_)
  have C : Cx k w cX8_kindsOfHarrow RX8 6 (some .int) 1 24 := C
  have D := dtX8_kindsOfHarrow
  subst hkl
  have hM0 := hM
  obtain ⟨hm, hsm, hs1, hs2, hs3, hs4, hs5, hs6, hs7, hs8, hs9, hs10, hs11⟩ := hM
  have hM := hM0
  refine X_iconst (v := nI (0)) C (D (0, .iconst 0, 1) (mg 0 rfl)) (by decide) ?_
  refine X_istore_n (ls' := [some (.ref (wA w (m))), some (.int (nI (0))), none, none, none, none]) C 1 (D (1, .istore_n 1, 1) (mg 1 rfl)) rfl (Nat.le_of_ble_eq_true rfl) rfl ?_
  refine X_iconst (v := nI (0)) C (D (2, .iconst 0, 1) (mg 2 rfl)) (by decide) ?_
  refine X_istore_n (ls' := [some (.ref (wA w (m))), some (.int (nI (0))), some (.int (nI (0))), none, none, none]) C 2 (D (3, .istore_n 2, 1) (mg 3 rfl)) rfl (Nat.le_of_ble_eq_true rfl) rfl ?_
  have lp4 : ∀ (nn4 : Nat) (t : Nat), (t ≤ 6) → 7 - t ≤ nn4 → X k w (Zq k w (px (some (.int (dpB (fun kd => ¬ alK h (m + 1) kd n = 0) 6))) h g)) 4 [some (.ref (wA w (m))), some (.int (dpB (fun kd => ¬ alK h (m + 1) (kd) (n) = 0) (t))), some (.int (nI (t))), none, none, none] [] h g := by
    intro nn4
    induction nn4 with
    | zero => intro t hc4_0 hz; exact absurd hz (by omega)
    | succ nn4 ih4 =>
      intro t hc4_0 hz4
      refine X_iload_n C 2 (D (4, .iload_n 2, 1) (mg 4 rfl)) rfl rfl ?_
      refine X_bipush (v := nI (6)) C (D (5, .bipush 6, 2) (mg 5 rfl)) (by decide) ?_
      refine X_icmp_ge (tgt := 103) C (D (7, .if_icmp .ge 96, 3) (mg 6 rfl)) (by decide) (fun q1 => ?_) (fun q1 => ?_)
      · skip
        have q1 : (t) ≥ (6) := by have z := (nI_leI (a := (6)) (b := (t)) (by omega) (by omega)).mp q1; omega
        refine X_iload_n C 1 (D (103, .iload_n 1, 1) (mg 62 rfl)) rfl rfl ?_
        exact X_iret C (D (104, .ireturn, 1) (mg 63 rfl)) ⟨by rw [show t = 6 by omega], rfl, rfl⟩
      · skip
        have q1 : (t) < (6) := by have z : ¬ ((6) ≤ (t)) := fun u => q1 ((nI_leI (a := (6)) (b := (t)) (by omega) (by omega)).mpr u); omega
        refine X_iconst (v := nI (1)) C (D (10, .iconst 1, 1) (mg 7 rfl)) (by decide) ?_
        refine X_istore_n (ls' := [some (.ref (wA w (m))), some (.int (dpB (fun kd => ¬ alK h (m + 1) (kd) (n) = 0) (t))), some (.int (nI (t))), some (.int (nI (1))), none, none]) C 3 (D (11, .istore_n 3, 1) (mg 8 rfl)) rfl (Nat.le_of_ble_eq_true rfl) rfl ?_
        refine X_iconst (v := nI (0)) C (D (12, .iconst 0, 1) (mg 9 rfl)) (by decide) ?_
        refine X_istore (ls' := [some (.ref (wA w (m))), some (.int (dpB (fun kd => ¬ alK h (m + 1) (kd) (n) = 0) (t))), some (.int (nI (t))), some (.int (nI (1))), some (.int (nI (0))), none]) C (D (13, .istore 4, 2) (mg 10 rfl)) (Nat.le_of_ble_eq_true rfl) rfl ?_
        have lp15 : ∀ (nn15 : Nat) (v1 : Nat), (v1 ≤ n) → n + 1 - v1 ≤ nn15 → X k w (Zq k w (px (some (.int (dpB (fun kd => ¬ alK h (m + 1) kd n = 0) 6))) h g)) 15 [some (.ref (wA w (m))), some (.int (dpB (fun kd => ¬ alK h (m + 1) (kd) (n) = 0) (t))), some (.int (nI (t))), some (.int (alK h (m + 1) (t) (v1))), some (.int (nI (v1))), none] [] h g := by
          intro nn15
          induction nn15 with
          | zero => intro v1 hc15_0 hz; exact absurd hz (by omega)
          | succ nn15 ih15 =>
            intro v1 hc15_0 hz15
            refine X_iload C (D (15, .iload 4, 2) (mg 11 rfl)) rfl ?_
            refine X_aload_n C 0 (D (17, .aload_n 0, 1) (mg 12 rfl)) rfl rfl ?_
            refine X_get (v := .ref (wA w (m + 1))) C (m) 0 (by omega) hsm rfl rfl (by decide) inX8 fX8_7 rfl (D (18, .getfield 7, 3) (mg 13 rfl)) rfl ?_
            refine X_iconst (v := nI (1)) C (D (21, .iconst 1, 1) (mg 14 rfl)) (by decide) ?_
            refine X_iald (v := h (m + 1) (1)) C (m + 1) (by omega) hs1 (vp_in_nI (by omega) (by omega)) (D (22, .iaload, 1) (mg 15 rfl)) (by rw [nI_clamp (by omega)]) ?_
            refine X_ti (y := nI (n)) hb ?_
            refine X_icmp_ge (tgt := 83) C (D (23, .if_icmp .ge 60, 3) (mg 16 rfl)) (by decide) (fun q2 => ?_) (fun q2 => ?_)
            · skip
              have q2 : (v1) ≥ (n) := by have z := (nI_leI (a := (n)) (b := (v1)) (by omega) (by omega)).mp q2; omega
              have hun : n = v1 := by omega
              subst hun
              refine X_iload_n C 1 (D (83, .iload_n 1, 1) (mg 50 rfl)) rfl rfl ?_
              refine X_iload_n C 3 (D (84, .iload_n 3, 1) (mg 51 rfl)) rfl rfl ?_
              refine X_if_eq (tgt := 94) C (D (85, .ifCond .eq 9, 3) (mg 52 rfl)) (by decide) (fun q3 => ?_) (fun q3 => ?_)
              · skip
                refine X_iconst (v := nI (0)) C (D (94, .iconst 0, 1) (mg 57 rfl)) (by decide) ?_
                refine X_ior C (D (95, .ior, 1) (mg 58 rfl)) ?_
                refine X_istore_n (ls' := [some (.ref (wA w (m))), some (.int ((dpB (fun kd => ¬ alK h (m + 1) (kd) (n) = 0) (t)) ||| (nI (0)))), some (.int (nI (t))), some (.int (alK h (m + 1) (t) (n))), some (.int (nI (n))), none]) C 1 (D (96, .istore_n 1, 1) (mg 59 rfl)) rfl (Nat.le_of_ble_eq_true rfl) rfl ?_
                refine X_iinc (v := nI (t + 1)) (ls' := [some (.ref (wA w (m))), some (.int ((dpB (fun kd => ¬ alK h (m + 1) (kd) (n) = 0) (t)) ||| (nI (0)))), some (.int (nI (t + 1))), some (.int (alK h (m + 1) (t) (n))), some (.int (nI (n))), none]) C (D (97, .iinc 2 1, 3) (mg 60 rfl)) rfl (nI_add (t) 1) rfl ?_
                refine X_goto (tgt := 4) C (D (100, .goto (-96), 3) (mg 61 rfl)) (by decide) ?_
                refine X_los (ls' := [some (.ref (wA w (m))), some (.int ((dpB (fun kd => ¬ alK h (m + 1) (kd) (n) = 0) (t)) ||| (nI (0)))), some (.int (nI (t + 1))), none, none, none]) (by simp [lsub]) ?_
                refine X_eq (ls' := [some (.ref (wA w (m))), some (.int (dpB (fun kd => ¬ alK h (m + 1) (kd) (n) = 0) (t + 1))), some (.int (nI (t + 1))), none, none, none]) (st' := []) (h' := h) (g' := g) (by rw [(dpB_f (fun z => z (by assumption)))]) rfl rfl rfl ?_
                exact ih4 (t + 1) (by omega) (by omega)
              · skip
                refine X_iconst (v := nI (1)) C (D (88, .iconst 1, 1) (mg 53 rfl)) (by decide) ?_
                refine X_iload_n C 2 (D (89, .iload_n 2, 1) (mg 54 rfl)) rfl rfl ?_
                refine X_ishl C (D (90, .ishl, 1) (mg 55 rfl)) ?_
                refine X_goto (tgt := 95) C (D (91, .goto 4, 3) (mg 56 rfl)) (by decide) ?_
                refine X_ior C (D (95, .ior, 1) (mg 58 rfl)) ?_
                refine X_istore_n (ls' := [some (.ref (wA w (m))), some (.int ((dpB (fun kd => ¬ alK h (m + 1) (kd) (n) = 0) (t)) ||| ((nI (1)) <<< ((nI (t)) &&& 31)))), some (.int (nI (t))), some (.int (alK h (m + 1) (t) (n))), some (.int (nI (n))), none]) C 1 (D (96, .istore_n 1, 1) (mg 59 rfl)) rfl (Nat.le_of_ble_eq_true rfl) rfl ?_
                refine X_iinc (v := nI (t + 1)) (ls' := [some (.ref (wA w (m))), some (.int ((dpB (fun kd => ¬ alK h (m + 1) (kd) (n) = 0) (t)) ||| ((nI (1)) <<< ((nI (t)) &&& 31)))), some (.int (nI (t + 1))), some (.int (alK h (m + 1) (t) (n))), some (.int (nI (n))), none]) C (D (97, .iinc 2 1, 3) (mg 60 rfl)) rfl (nI_add (t) 1) rfl ?_
                refine X_goto (tgt := 4) C (D (100, .goto (-96), 3) (mg 61 rfl)) (by decide) ?_
                refine X_los (ls' := [some (.ref (wA w (m))), some (.int ((dpB (fun kd => ¬ alK h (m + 1) (kd) (n) = 0) (t)) ||| ((nI (1)) <<< ((nI (t)) &&& 31)))), some (.int (nI (t + 1))), none, none, none]) (by simp [lsub]) ?_
                refine X_eq (ls' := [some (.ref (wA w (m))), some (.int (dpB (fun kd => ¬ alK h (m + 1) (kd) (n) = 0) (t + 1))), some (.int (nI (t + 1))), none, none, none]) (st' := []) (h' := h) (g' := g) (by rw [(dpB_t (by assumption))]) rfl rfl rfl ?_
                exact ih4 (t + 1) (by omega) (by omega)
            · skip
              have q2 : (v1) < (n) := by have z : ¬ ((n) ≤ (v1)) := fun u => q2 ((nI_leI (a := (n)) (b := (v1)) (by omega) (by omega)).mpr u); omega
              refine X_bipush (v := nI (76)) C (D (26, .bipush 76, 2) (mg 17 rfl)) (by decide) ?_
              refine X_iconst (v := nI (3)) C (D (28, .iconst 3, 1) (mg 18 rfl)) (by decide) ?_
              refine X_iload C (D (29, .iload 4, 2) (mg 19 rfl)) rfl ?_
              refine X_imul C (D (31, .imul, 1) (mg 20 rfl)) ?_
              refine X_ti (y := nI ((3) * (v1))) (pk_mul (3) (v1)) ?_
              refine X_iadd C (D (32, .iadd, 1) (mg 21 rfl)) ?_
              refine X_ti (y := nI (76 + (3) * (v1))) (nI_add (76) ((3) * (v1))) ?_
              refine X_istore (ls' := [some (.ref (wA w (m))), some (.int (dpB (fun kd => ¬ alK h (m + 1) (kd) (n) = 0) (t))), some (.int (nI (t))), some (.int (alK h (m + 1) (t) (v1))), some (.int (nI (v1))), some (.int (nI (76 + (3) * (v1))))]) C (D (33, .istore 5, 2) (mg 22 rfl)) (Nat.le_of_ble_eq_true rfl) rfl ?_
              refine X_iload_n C 3 (D (35, .iload_n 3, 1) (mg 23 rfl)) rfl rfl ?_
              refine X_if_eq (tgt := 75) C (D (36, .ifCond .eq 39, 3) (mg 24 rfl)) (by decide) (fun q4 => ?_) (fun q4 => ?_)
              · skip
                refine X_iconst (v := nI (0)) C (D (75, .iconst 0, 1) (mg 46 rfl)) (by decide) ?_
                refine X_istore_n (ls' := [some (.ref (wA w (m))), some (.int (dpB (fun kd => ¬ alK h (m + 1) (kd) (n) = 0) (t))), some (.int (nI (t))), some (.int (nI (0))), some (.int (nI (v1))), some (.int (nI (76 + (3) * (v1))))]) C 3 (D (76, .istore_n 3, 1) (mg 47 rfl)) rfl (Nat.le_of_ble_eq_true rfl) rfl ?_
                refine X_iinc (v := nI (v1 + 1)) (ls' := [some (.ref (wA w (m))), some (.int (dpB (fun kd => ¬ alK h (m + 1) (kd) (n) = 0) (t))), some (.int (nI (t))), some (.int (nI (0))), some (.int (nI (v1 + 1))), some (.int (nI (76 + (3) * (v1))))]) C (D (77, .iinc 4 1, 3) (mg 48 rfl)) rfl (nI_add (v1) 1) rfl ?_
                refine X_goto (tgt := 15) C (D (80, .goto (-65), 3) (mg 49 rfl)) (by decide) ?_
                refine X_los (ls' := [some (.ref (wA w (m))), some (.int (dpB (fun kd => ¬ alK h (m + 1) (kd) (n) = 0) (t))), some (.int (nI (t))), some (.int (nI (0))), some (.int (nI (v1 + 1))), none]) (by simp [lsub]) ?_
                refine X_eq (ls' := [some (.ref (wA w (m))), some (.int (dpB (fun kd => ¬ alK h (m + 1) (kd) (n) = 0) (t))), some (.int (nI (t))), some (.int (alK h (m + 1) (t) (v1 + 1))), some (.int (nI (v1 + 1))), none]) (st' := []) (h' := h) (g' := g) (by first | rw [show nI (0) = alK h (m + 1) (t) (v1 + 1) from alB_z (by assumption)] | rw [show nI (0) = alK h (m + 1) (t) (v1 + 1) from alB_f (by assumption) (by assumption)]) rfl rfl rfl ?_
                exact ih15 (v1 + 1) (by omega) (by omega)
              · skip
                refine X_iload_n C 2 (D (39, .iload_n 2, 1) (mg 25 rfl)) rfl rfl ?_
                refine X_aload_n C 0 (D (40, .aload_n 0, 1) (mg 26 rfl)) rfl rfl ?_
                refine X_get (v := .ref (wA w (m + 1))) C (m) 0 (by omega) hsm rfl rfl (by decide) inX8 fX8_7 rfl (D (41, .getfield 7, 3) (mg 27 rfl)) rfl ?_
                refine X_iload C (D (44, .iload 5, 2) (mg 28 rfl)) rfl ?_
                refine X_iald (v := h (m + 1) (76 + (3) * (v1))) C (m + 1) (by omega) hs1 (vp_in_nI (by omega) (by omega)) (D (46, .iaload, 1) (mg 29 rfl)) (by rw [nI_clamp (by omega)]) ?_
                refine X_aload_n C 0 (D (47, .aload_n 0, 1) (mg 30 rfl)) rfl rfl ?_
                refine X_get (v := .ref (wA w (m + 1))) C (m) 0 (by omega) hsm rfl rfl (by decide) inX8 fX8_7 rfl (D (48, .getfield 7, 3) (mg 31 rfl)) rfl ?_
                refine X_iload C (D (51, .iload 5, 2) (mg 32 rfl)) rfl ?_
                refine X_iconst (v := nI (1)) C (D (53, .iconst 1, 1) (mg 33 rfl)) (by decide) ?_
                refine X_iadd C (D (54, .iadd, 1) (mg 34 rfl)) ?_
                refine X_ti (y := nI (76 + (3) * (v1) + 1)) (nI_add (76 + (3) * (v1)) (1)) ?_
                refine X_iald (v := h (m + 1) (76 + (3) * (v1) + 1)) C (m + 1) (by omega) hs1 (vp_in_nI (by omega) (by omega)) (D (55, .iaload, 1) (mg 35 rfl)) (by rw [nI_clamp (by omega)]) ?_
                refine X_cS (As := [.int (nI (t)), .int (h (m + 1) (76 + (3) * (v1))), .int (h (m + 1) (76 + (3) * (v1) + 1))]) (st := []) C (post := _) (ct_X8_deeperAs hw (nI (t)) (h (m + 1) (76 + (3) * (v1))) (h (m + 1) (76 + (3) * (v1) + 1)) h g) kX8_100 (by decide) (by decide) rfl rfl (Nat.le_of_ble_eq_true rfl) (D (56, .invokestatic 100, 3) (mg 36 rfl)) rfl (fun v7 H5 G6 hv7 => ?_)
                obtain ⟨rfl, rfl, rfl⟩ := hv7
                show X k w _ 59 [some (.ref (wA w (m))), some (.int (dpB (fun kd => ¬ alK h (m + 1) (kd) (n) = 0) (t))), some (.int (nI (t))), some (.int (alK h (m + 1) (t) (v1))), some (.int (nI (v1))), some (.int (nI (76 + (3) * (v1))))] [.int (deA (nI (t)) (h (m + 1) (76 + (3) * (v1))) (h (m + 1) (76 + (3) * (v1) + 1)))] h g
                refine X_aload_n C 0 (D (59, .aload_n 0, 1) (mg 37 rfl)) rfl rfl ?_
                refine X_get (v := .ref (wA w (m + 1))) C (m) 0 (by omega) hsm rfl rfl (by decide) inX8 fX8_7 rfl (D (60, .getfield 7, 3) (mg 38 rfl)) rfl ?_
                refine X_iload C (D (63, .iload 5, 2) (mg 39 rfl)) rfl ?_
                refine X_iconst (v := nI (2)) C (D (65, .iconst 2, 1) (mg 40 rfl)) (by decide) ?_
                refine X_iadd C (D (66, .iadd, 1) (mg 41 rfl)) ?_
                refine X_ti (y := nI (76 + (3) * (v1) + 2)) (nI_add (76 + (3) * (v1)) (2)) ?_
                refine X_iald (v := h (m + 1) (76 + (3) * (v1) + 2)) C (m + 1) (by omega) hs1 (vp_in_nI (by omega) (by omega)) (D (67, .iaload, 1) (mg 42 rfl)) (by rw [nI_clamp (by omega)]) ?_
                refine X_icmp_ne (tgt := 75) C (D (68, .if_icmp .ne 7, 3) (mg 43 rfl)) (by decide) (fun q8 => ?_) (fun q8 => ?_)
                · skip
                  refine X_iconst (v := nI (0)) C (D (75, .iconst 0, 1) (mg 46 rfl)) (by decide) ?_
                  refine X_istore_n (ls' := [some (.ref (wA w (m))), some (.int (dpB (fun kd => ¬ alK h (m + 1) (kd) (n) = 0) (t))), some (.int (nI (t))), some (.int (nI (0))), some (.int (nI (v1))), some (.int (nI (76 + (3) * (v1))))]) C 3 (D (76, .istore_n 3, 1) (mg 47 rfl)) rfl (Nat.le_of_ble_eq_true rfl) rfl ?_
                  refine X_iinc (v := nI (v1 + 1)) (ls' := [some (.ref (wA w (m))), some (.int (dpB (fun kd => ¬ alK h (m + 1) (kd) (n) = 0) (t))), some (.int (nI (t))), some (.int (nI (0))), some (.int (nI (v1 + 1))), some (.int (nI (76 + (3) * (v1))))]) C (D (77, .iinc 4 1, 3) (mg 48 rfl)) rfl (nI_add (v1) 1) rfl ?_
                  refine X_goto (tgt := 15) C (D (80, .goto (-65), 3) (mg 49 rfl)) (by decide) ?_
                  refine X_los (ls' := [some (.ref (wA w (m))), some (.int (dpB (fun kd => ¬ alK h (m + 1) (kd) (n) = 0) (t))), some (.int (nI (t))), some (.int (nI (0))), some (.int (nI (v1 + 1))), none]) (by simp [lsub]) ?_
                  refine X_eq (ls' := [some (.ref (wA w (m))), some (.int (dpB (fun kd => ¬ alK h (m + 1) (kd) (n) = 0) (t))), some (.int (nI (t))), some (.int (alK h (m + 1) (t) (v1 + 1))), some (.int (nI (v1 + 1))), none]) (st' := []) (h' := h) (g' := g) (by first | rw [show nI (0) = alK h (m + 1) (t) (v1 + 1) from alB_z (by assumption)] | rw [show nI (0) = alK h (m + 1) (t) (v1 + 1) from alB_f (by assumption) (by assumption)]) rfl rfl rfl ?_
                  exact ih15 (v1 + 1) (by omega) (by omega)
                · skip
                  refine X_iconst (v := nI (1)) C (D (71, .iconst 1, 1) (mg 44 rfl)) (by decide) ?_
                  refine X_goto (tgt := 76) C (D (72, .goto 4, 3) (mg 45 rfl)) (by decide) ?_
                  refine X_istore_n (ls' := [some (.ref (wA w (m))), some (.int (dpB (fun kd => ¬ alK h (m + 1) (kd) (n) = 0) (t))), some (.int (nI (t))), some (.int (nI (1))), some (.int (nI (v1))), some (.int (nI (76 + (3) * (v1))))]) C 3 (D (76, .istore_n 3, 1) (mg 47 rfl)) rfl (Nat.le_of_ble_eq_true rfl) rfl ?_
                  refine X_iinc (v := nI (v1 + 1)) (ls' := [some (.ref (wA w (m))), some (.int (dpB (fun kd => ¬ alK h (m + 1) (kd) (n) = 0) (t))), some (.int (nI (t))), some (.int (nI (1))), some (.int (nI (v1 + 1))), some (.int (nI (76 + (3) * (v1))))]) C (D (77, .iinc 4 1, 3) (mg 48 rfl)) rfl (nI_add (v1) 1) rfl ?_
                  refine X_goto (tgt := 15) C (D (80, .goto (-65), 3) (mg 49 rfl)) (by decide) ?_
                  refine X_los (ls' := [some (.ref (wA w (m))), some (.int (dpB (fun kd => ¬ alK h (m + 1) (kd) (n) = 0) (t))), some (.int (nI (t))), some (.int (nI (1))), some (.int (nI (v1 + 1))), none]) (by simp [lsub]) ?_
                  refine X_eq (ls' := [some (.ref (wA w (m))), some (.int (dpB (fun kd => ¬ alK h (m + 1) (kd) (n) = 0) (t))), some (.int (nI (t))), some (.int (alK h (m + 1) (t) (v1 + 1))), some (.int (nI (v1 + 1))), none]) (st' := []) (h' := h) (g' := g) (by first | rw [show nI (1) = alK h (m + 1) (t) (v1 + 1) from alB_t (by assumption) (by assumption)]) rfl rfl rfl ?_
                  exact ih15 (v1 + 1) (by omega) (by omega)
        refine X_eq (ls' := [some (.ref (wA w (m))), some (.int (dpB (fun kd => ¬ alK h (m + 1) (kd) (n) = 0) (t))), some (.int (nI (t))), some (.int (alK h (m + 1) (t) (0))), some (.int (nI (0))), none]) (st' := []) (h' := h) (g' := g) rfl rfl rfl rfl ?_
        exact lp15 _ (0) (by omega) (Nat.le_refl _)
  refine X_eq (ls' := [some (.ref (wA w (m))), some (.int (dpB (fun kd => ¬ alK h (m + 1) (kd) (n) = 0) (0))), some (.int (nI (0))), none, none, none]) (st' := []) (h' := h) (g' := g) rfl rfl rfl rfl ?_
  exact lp4 _ (0) (by omega) (Nat.le_refl _)
set_option maxHeartbeats 4000000 in
set_option maxRecDepth 100000 in
theorem ct_X8_kinds {l : Launch} {w : Kw} (hw : wOk w) {m : Nat} (hM : shM w m) {n : Nat} (hn : n ≤ 6) (h : xI) (g : xJ) (hb : h (m + 1) 1 = nI n) : Ct l w yX8_kinds cX8_kinds 1 (some .int) 2 49 [.ref (wA w (m))] h g (px (some (.int (dpB (fun kd => ¬ alK h (m + 1) kd n = 0) 6))) h g) := by
  refine Ct_of (ls := [some (.ref (wA w (m)))]) (by decide) hw (Nat.le_of_ble_eq_true rfl) rfl (fun k hkl C => ?_)
  have C : Cx k w cX8_kinds RX8 1 (some .int) 2 49 := C
  have D := dtX8_kinds
  subst hkl
  have hM0 := hM
  obtain ⟨hm, hsm, hs1, hs2, hs3, hs4, hs5, hs6, hs7, hs8, hs9, hs10, hs11⟩ := hM
  have hM := hM0
  refine X_aload_n C 0 (D (0, .aload_n 0, 1) (mg 0 rfl)) rfl rfl ?_
  refine X_cV (As := []) (st := []) C (post := _) (m) (by omega) hsm rfl (ct_X8_kindsOfHarrow hw hM hn h g hb) kX8_194 (by decide) (by decide) rfl rfl (Nat.le_of_ble_eq_true rfl) (D (1, .invokevirtual 194, 3) (mg 1 rfl)) rfl (fun v3 H1 G2 hv3 => ?_)
  obtain ⟨rfl, rfl, rfl⟩ := hv3
  show X k w _ 4 [some (.ref (wA w (m)))] [.int (dpB (fun kd => ¬ alK h (m + 1) kd n = 0) 6)] h g
  exact X_iret C (D (4, .ireturn, 1) (mg 2 rfl)) ⟨rfl, rfl, rfl⟩
set_option maxHeartbeats 4000000 in
set_option maxRecDepth 100000 in
theorem ct_X8_saidIn {l : Launch} {w : Kw} (hw : wOk w) {m : Nat} (hM : shM w m) (c : Int32) {n : Nat} (hn : n ≤ 5) (h : xI) (g : xJ) (hb : h (m + 1) 0 = nI n) : Ct l w yX8_saidIn cX8_saidIn 7 (some .int) 1 25 [.ref (wA w (m)), .int (c)] h g (px (some (.int (dpB (fun kd => ¬ alS h (m + 1) c kd n = 0) 6))) h g) := by
  refine Ct_of (ls := [some (.ref (wA w (m))), some (.int (c)), none, none, none, none, none]) (by decide) hw (Nat.le_of_ble_eq_true rfl) rfl (fun k hkl C => ?_)
  have C : Cx k w cX8_saidIn RX8 7 (some .int) 1 25 := C
  have D := dtX8_saidIn
  subst hkl
  have hM0 := hM
  obtain ⟨hm, hsm, hs1, hs2, hs3, hs4, hs5, hs6, hs7, hs8, hs9, hs10, hs11⟩ := hM
  have hM := hM0
  refine X_iconst (v := nI (0)) C (D (0, .iconst 0, 1) (mg 0 rfl)) (by decide) ?_
  refine X_istore_n (ls' := [some (.ref (wA w (m))), some (.int (c)), some (.int (nI (0))), none, none, none, none]) C 2 (D (1, .istore_n 2, 1) (mg 1 rfl)) rfl (Nat.le_of_ble_eq_true rfl) rfl ?_
  refine X_iconst (v := nI (0)) C (D (2, .iconst 0, 1) (mg 2 rfl)) (by decide) ?_
  refine X_istore_n (ls' := [some (.ref (wA w (m))), some (.int (c)), some (.int (nI (0))), some (.int (nI (0))), none, none, none]) C 3 (D (3, .istore_n 3, 1) (mg 3 rfl)) rfl (Nat.le_of_ble_eq_true rfl) rfl ?_
  have lp4 : ∀ (nn4 : Nat) (t : Nat), (t ≤ 6) → 7 - t ≤ nn4 → X k w (Zq k w (px (some (.int (dpB (fun kd => ¬ alS h (m + 1) c kd n = 0) 6))) h g)) 4 [some (.ref (wA w (m))), some (.int (c)), some (.int (dpB (fun kd => ¬ alS h (m + 1) c (kd) (n) = 0) (t))), some (.int (nI (t))), none, none, none] [] h g := by
    intro nn4
    induction nn4 with
    | zero => intro t hc4_0 hz; exact absurd hz (by omega)
    | succ nn4 ih4 =>
      intro t hc4_0 hz4
      refine X_iload_n C 3 (D (4, .iload_n 3, 1) (mg 4 rfl)) rfl rfl ?_
      refine X_bipush (v := nI (6)) C (D (5, .bipush 6, 2) (mg 5 rfl)) (by decide) ?_
      refine X_icmp_ge (tgt := 120) C (D (7, .if_icmp .ge 113, 3) (mg 6 rfl)) (by decide) (fun q1 => ?_) (fun q1 => ?_)
      · skip
        have q1 : (t) ≥ (6) := by have z := (nI_leI (a := (6)) (b := (t)) (by omega) (by omega)).mp q1; omega
        refine X_iload_n C 2 (D (120, .iload_n 2, 1) (mg 70 rfl)) rfl rfl ?_
        exact X_iret C (D (121, .ireturn, 1) (mg 71 rfl)) ⟨by rw [show t = 6 by omega], rfl, rfl⟩
      · skip
        have q1 : (t) < (6) := by have z : ¬ ((6) ≤ (t)) := fun u => q1 ((nI_leI (a := (6)) (b := (t)) (by omega) (by omega)).mpr u); omega
        refine X_iconst (v := nI (1)) C (D (10, .iconst 1, 1) (mg 7 rfl)) (by decide) ?_
        refine X_istore (ls' := [some (.ref (wA w (m))), some (.int (c)), some (.int (dpB (fun kd => ¬ alS h (m + 1) c (kd) (n) = 0) (t))), some (.int (nI (t))), some (.int (nI (1))), none, none]) C (D (11, .istore 4, 2) (mg 8 rfl)) (Nat.le_of_ble_eq_true rfl) rfl ?_
        refine X_iconst (v := nI (0)) C (D (13, .iconst 0, 1) (mg 9 rfl)) (by decide) ?_
        refine X_istore (ls' := [some (.ref (wA w (m))), some (.int (c)), some (.int (dpB (fun kd => ¬ alS h (m + 1) c (kd) (n) = 0) (t))), some (.int (nI (t))), some (.int (nI (1))), some (.int (nI (0))), none]) C (D (14, .istore 5, 2) (mg 10 rfl)) (Nat.le_of_ble_eq_true rfl) rfl ?_
        have lp16 : ∀ (nn16 : Nat) (v1 : Nat), (v1 ≤ n) → n + 1 - v1 ≤ nn16 → X k w (Zq k w (px (some (.int (dpB (fun kd => ¬ alS h (m + 1) c kd n = 0) 6))) h g)) 16 [some (.ref (wA w (m))), some (.int (c)), some (.int (dpB (fun kd => ¬ alS h (m + 1) c (kd) (n) = 0) (t))), some (.int (nI (t))), some (.int (alS h (m + 1) c (t) (v1))), some (.int (nI (v1))), none] [] h g := by
          intro nn16
          induction nn16 with
          | zero => intro v1 hc16_0 hz; exact absurd hz (by omega)
          | succ nn16 ih16 =>
            intro v1 hc16_0 hz16
            refine X_iload C (D (16, .iload 5, 2) (mg 11 rfl)) rfl ?_
            refine X_aload_n C 0 (D (18, .aload_n 0, 1) (mg 12 rfl)) rfl rfl ?_
            refine X_get (v := .ref (wA w (m + 1))) C (m) 0 (by omega) hsm rfl rfl (by decide) inX8 fX8_7 rfl (D (19, .getfield 7, 3) (mg 13 rfl)) rfl ?_
            refine X_iconst (v := nI (0)) C (D (22, .iconst 0, 1) (mg 14 rfl)) (by decide) ?_
            refine X_iald (v := h (m + 1) (0)) C (m + 1) (by omega) hs1 (vp_in_nI (by omega) (by omega)) (D (23, .iaload, 1) (mg 15 rfl)) (by rw [nI_clamp (by omega)]) ?_
            refine X_ti (y := nI (n)) hb ?_
            refine X_icmp_ge (tgt := 99) C (D (24, .if_icmp .ge 75, 3) (mg 16 rfl)) (by decide) (fun q2 => ?_) (fun q2 => ?_)
            · skip
              have q2 : (v1) ≥ (n) := by have z := (nI_leI (a := (n)) (b := (v1)) (by omega) (by omega)).mp q2; omega
              have hun : n = v1 := by omega
              subst hun
              refine X_iload_n C 2 (D (99, .iload_n 2, 1) (mg 58 rfl)) rfl rfl ?_
              refine X_iload C (D (100, .iload 4, 2) (mg 59 rfl)) rfl ?_
              refine X_if_eq (tgt := 111) C (D (102, .ifCond .eq 9, 3) (mg 60 rfl)) (by decide) (fun q3 => ?_) (fun q3 => ?_)
              · skip
                refine X_iconst (v := nI (0)) C (D (111, .iconst 0, 1) (mg 65 rfl)) (by decide) ?_
                refine X_ior C (D (112, .ior, 1) (mg 66 rfl)) ?_
                refine X_istore_n (ls' := [some (.ref (wA w (m))), some (.int (c)), some (.int ((dpB (fun kd => ¬ alS h (m + 1) c (kd) (n) = 0) (t)) ||| (nI (0)))), some (.int (nI (t))), some (.int (alS h (m + 1) c (t) (n))), some (.int (nI (n))), none]) C 2 (D (113, .istore_n 2, 1) (mg 67 rfl)) rfl (Nat.le_of_ble_eq_true rfl) rfl ?_
                refine X_iinc (v := nI (t + 1)) (ls' := [some (.ref (wA w (m))), some (.int (c)), some (.int ((dpB (fun kd => ¬ alS h (m + 1) c (kd) (n) = 0) (t)) ||| (nI (0)))), some (.int (nI (t + 1))), some (.int (alS h (m + 1) c (t) (n))), some (.int (nI (n))), none]) C (D (114, .iinc 3 1, 3) (mg 68 rfl)) rfl (nI_add (t) 1) rfl ?_
                refine X_goto (tgt := 4) C (D (117, .goto (-113), 3) (mg 69 rfl)) (by decide) ?_
                refine X_los (ls' := [some (.ref (wA w (m))), some (.int (c)), some (.int ((dpB (fun kd => ¬ alS h (m + 1) c (kd) (n) = 0) (t)) ||| (nI (0)))), some (.int (nI (t + 1))), none, none, none]) (by simp [lsub]) ?_
                refine X_eq (ls' := [some (.ref (wA w (m))), some (.int (c)), some (.int (dpB (fun kd => ¬ alS h (m + 1) c (kd) (n) = 0) (t + 1))), some (.int (nI (t + 1))), none, none, none]) (st' := []) (h' := h) (g' := g) (by rw [(dpB_f (fun z => z (by assumption)))]) rfl rfl rfl ?_
                exact ih4 (t + 1) (by omega) (by omega)
              · skip
                refine X_iconst (v := nI (1)) C (D (105, .iconst 1, 1) (mg 61 rfl)) (by decide) ?_
                refine X_iload_n C 3 (D (106, .iload_n 3, 1) (mg 62 rfl)) rfl rfl ?_
                refine X_ishl C (D (107, .ishl, 1) (mg 63 rfl)) ?_
                refine X_goto (tgt := 112) C (D (108, .goto 4, 3) (mg 64 rfl)) (by decide) ?_
                refine X_ior C (D (112, .ior, 1) (mg 66 rfl)) ?_
                refine X_istore_n (ls' := [some (.ref (wA w (m))), some (.int (c)), some (.int ((dpB (fun kd => ¬ alS h (m + 1) c (kd) (n) = 0) (t)) ||| ((nI (1)) <<< ((nI (t)) &&& 31)))), some (.int (nI (t))), some (.int (alS h (m + 1) c (t) (n))), some (.int (nI (n))), none]) C 2 (D (113, .istore_n 2, 1) (mg 67 rfl)) rfl (Nat.le_of_ble_eq_true rfl) rfl ?_
                refine X_iinc (v := nI (t + 1)) (ls' := [some (.ref (wA w (m))), some (.int (c)), some (.int ((dpB (fun kd => ¬ alS h (m + 1) c (kd) (n) = 0) (t)) ||| ((nI (1)) <<< ((nI (t)) &&& 31)))), some (.int (nI (t + 1))), some (.int (alS h (m + 1) c (t) (n))), some (.int (nI (n))), none]) C (D (114, .iinc 3 1, 3) (mg 68 rfl)) rfl (nI_add (t) 1) rfl ?_
                refine X_goto (tgt := 4) C (D (117, .goto (-113), 3) (mg 69 rfl)) (by decide) ?_
                refine X_los (ls' := [some (.ref (wA w (m))), some (.int (c)), some (.int ((dpB (fun kd => ¬ alS h (m + 1) c (kd) (n) = 0) (t)) ||| ((nI (1)) <<< ((nI (t)) &&& 31)))), some (.int (nI (t + 1))), none, none, none]) (by simp [lsub]) ?_
                refine X_eq (ls' := [some (.ref (wA w (m))), some (.int (c)), some (.int (dpB (fun kd => ¬ alS h (m + 1) c (kd) (n) = 0) (t + 1))), some (.int (nI (t + 1))), none, none, none]) (st' := []) (h' := h) (g' := g) (by rw [(dpB_t (by assumption))]) rfl rfl rfl ?_
                exact ih4 (t + 1) (by omega) (by omega)
            · skip
              have q2 : (v1) < (n) := by have z : ¬ ((n) ≤ (v1)) := fun u => q2 ((nI_leI (a := (n)) (b := (v1)) (by omega) (by omega)).mpr u); omega
              refine X_bipush (v := nI (56)) C (D (27, .bipush 56, 2) (mg 17 rfl)) (by decide) ?_
              refine X_iconst (v := nI (4)) C (D (29, .iconst 4, 1) (mg 18 rfl)) (by decide) ?_
              refine X_iload C (D (30, .iload 5, 2) (mg 19 rfl)) rfl ?_
              refine X_imul C (D (32, .imul, 1) (mg 20 rfl)) ?_
              refine X_ti (y := nI ((4) * (v1))) (pk_mul (4) (v1)) ?_
              refine X_iadd C (D (33, .iadd, 1) (mg 21 rfl)) ?_
              refine X_ti (y := nI (56 + (4) * (v1))) (nI_add (56) ((4) * (v1))) ?_
              refine X_istore (ls' := [some (.ref (wA w (m))), some (.int (c)), some (.int (dpB (fun kd => ¬ alS h (m + 1) c (kd) (n) = 0) (t))), some (.int (nI (t))), some (.int (alS h (m + 1) c (t) (v1))), some (.int (nI (v1))), some (.int (nI (56 + (4) * (v1))))]) C (D (34, .istore 6, 2) (mg 22 rfl)) (Nat.le_of_ble_eq_true rfl) rfl ?_
              refine X_iload C (D (36, .iload 4, 2) (mg 23 rfl)) rfl ?_
              refine X_if_eq (tgt := 90) C (D (38, .ifCond .eq 52, 3) (mg 24 rfl)) (by decide) (fun q4 => ?_) (fun q4 => ?_)
              · skip
                refine X_iconst (v := nI (0)) C (D (90, .iconst 0, 1) (mg 54 rfl)) (by decide) ?_
                refine X_istore (ls' := [some (.ref (wA w (m))), some (.int (c)), some (.int (dpB (fun kd => ¬ alS h (m + 1) c (kd) (n) = 0) (t))), some (.int (nI (t))), some (.int (nI (0))), some (.int (nI (v1))), some (.int (nI (56 + (4) * (v1))))]) C (D (91, .istore 4, 2) (mg 55 rfl)) (Nat.le_of_ble_eq_true rfl) rfl ?_
                refine X_iinc (v := nI (v1 + 1)) (ls' := [some (.ref (wA w (m))), some (.int (c)), some (.int (dpB (fun kd => ¬ alS h (m + 1) c (kd) (n) = 0) (t))), some (.int (nI (t))), some (.int (nI (0))), some (.int (nI (v1 + 1))), some (.int (nI (56 + (4) * (v1))))]) C (D (93, .iinc 5 1, 3) (mg 56 rfl)) rfl (nI_add (v1) 1) rfl ?_
                refine X_goto (tgt := 16) C (D (96, .goto (-80), 3) (mg 57 rfl)) (by decide) ?_
                refine X_los (ls' := [some (.ref (wA w (m))), some (.int (c)), some (.int (dpB (fun kd => ¬ alS h (m + 1) c (kd) (n) = 0) (t))), some (.int (nI (t))), some (.int (nI (0))), some (.int (nI (v1 + 1))), none]) (by simp [lsub]) ?_
                refine X_eq (ls' := [some (.ref (wA w (m))), some (.int (c)), some (.int (dpB (fun kd => ¬ alS h (m + 1) c (kd) (n) = 0) (t))), some (.int (nI (t))), some (.int (alS h (m + 1) c (t) (v1 + 1))), some (.int (nI (v1 + 1))), none]) (st' := []) (h' := h) (g' := g) (by first | rw [show nI (0) = alS h (m + 1) c (t) (v1 + 1) from alB_z (by assumption)] | rw [show nI (0) = alS h (m + 1) c (t) (v1 + 1) from alB_f (by assumption) (fun z => z.elim (fun y => y (by assumption)) (by assumption))]) rfl rfl rfl ?_
                exact ih16 (v1 + 1) (by omega) (by omega)
              · skip
                refine X_aload_n C 0 (D (41, .aload_n 0, 1) (mg 25 rfl)) rfl rfl ?_
                refine X_get (v := .ref (wA w (m + 1))) C (m) 0 (by omega) hsm rfl rfl (by decide) inX8 fX8_7 rfl (D (42, .getfield 7, 3) (mg 26 rfl)) rfl ?_
                refine X_iload C (D (45, .iload 6, 2) (mg 27 rfl)) rfl ?_
                refine X_iald (v := h (m + 1) (56 + (4) * (v1))) C (m + 1) (by omega) hs1 (vp_in_nI (by omega) (by omega)) (D (47, .iaload, 1) (mg 28 rfl)) (by rw [nI_clamp (by omega)]) ?_
                refine X_iload_n C 1 (D (48, .iload_n 1, 1) (mg 29 rfl)) rfl rfl ?_
                refine X_icmp_ne (tgt := 86) C (D (49, .if_icmp .ne 37, 3) (mg 30 rfl)) (by decide) (fun q5 => ?_) (fun q5 => ?_)
                · skip
                  refine X_iconst (v := nI (1)) C (D (86, .iconst 1, 1) (mg 52 rfl)) (by decide) ?_
                  refine X_goto (tgt := 91) C (D (87, .goto 4, 3) (mg 53 rfl)) (by decide) ?_
                  refine X_istore (ls' := [some (.ref (wA w (m))), some (.int (c)), some (.int (dpB (fun kd => ¬ alS h (m + 1) c (kd) (n) = 0) (t))), some (.int (nI (t))), some (.int (nI (1))), some (.int (nI (v1))), some (.int (nI (56 + (4) * (v1))))]) C (D (91, .istore 4, 2) (mg 55 rfl)) (Nat.le_of_ble_eq_true rfl) rfl ?_
                  refine X_iinc (v := nI (v1 + 1)) (ls' := [some (.ref (wA w (m))), some (.int (c)), some (.int (dpB (fun kd => ¬ alS h (m + 1) c (kd) (n) = 0) (t))), some (.int (nI (t))), some (.int (nI (1))), some (.int (nI (v1 + 1))), some (.int (nI (56 + (4) * (v1))))]) C (D (93, .iinc 5 1, 3) (mg 56 rfl)) rfl (nI_add (v1) 1) rfl ?_
                  refine X_goto (tgt := 16) C (D (96, .goto (-80), 3) (mg 57 rfl)) (by decide) ?_
                  refine X_los (ls' := [some (.ref (wA w (m))), some (.int (c)), some (.int (dpB (fun kd => ¬ alS h (m + 1) c (kd) (n) = 0) (t))), some (.int (nI (t))), some (.int (nI (1))), some (.int (nI (v1 + 1))), none]) (by simp [lsub]) ?_
                  refine X_eq (ls' := [some (.ref (wA w (m))), some (.int (c)), some (.int (dpB (fun kd => ¬ alS h (m + 1) c (kd) (n) = 0) (t))), some (.int (nI (t))), some (.int (alS h (m + 1) c (t) (v1 + 1))), some (.int (nI (v1 + 1))), none]) (st' := []) (h' := h) (g' := g) (by first | rw [show nI (1) = alS h (m + 1) c (t) (v1 + 1) from alB_t (by assumption) (Or.inl (by assumption))] | rw [show nI (1) = alS h (m + 1) c (t) (v1 + 1) from alB_t (by assumption) (Or.inr (by assumption))]) rfl rfl rfl ?_
                  exact ih16 (v1 + 1) (by omega) (by omega)
                · skip
                  refine X_iload_n C 3 (D (52, .iload_n 3, 1) (mg 31 rfl)) rfl rfl ?_
                  refine X_aload_n C 0 (D (53, .aload_n 0, 1) (mg 32 rfl)) rfl rfl ?_
                  refine X_get (v := .ref (wA w (m + 1))) C (m) 0 (by omega) hsm rfl rfl (by decide) inX8 fX8_7 rfl (D (54, .getfield 7, 3) (mg 33 rfl)) rfl ?_
                  refine X_iload C (D (57, .iload 6, 2) (mg 34 rfl)) rfl ?_
                  refine X_iconst (v := nI (1)) C (D (59, .iconst 1, 1) (mg 35 rfl)) (by decide) ?_
                  refine X_iadd C (D (60, .iadd, 1) (mg 36 rfl)) ?_
                  refine X_ti (y := nI (56 + (4) * (v1) + 1)) (nI_add (56 + (4) * (v1)) (1)) ?_
                  refine X_iald (v := h (m + 1) (56 + (4) * (v1) + 1)) C (m + 1) (by omega) hs1 (vp_in_nI (by omega) (by omega)) (D (61, .iaload, 1) (mg 37 rfl)) (by rw [nI_clamp (by omega)]) ?_
                  refine X_aload_n C 0 (D (62, .aload_n 0, 1) (mg 38 rfl)) rfl rfl ?_
                  refine X_get (v := .ref (wA w (m + 1))) C (m) 0 (by omega) hsm rfl rfl (by decide) inX8 fX8_7 rfl (D (63, .getfield 7, 3) (mg 39 rfl)) rfl ?_
                  refine X_iload C (D (66, .iload 6, 2) (mg 40 rfl)) rfl ?_
                  refine X_iconst (v := nI (2)) C (D (68, .iconst 2, 1) (mg 41 rfl)) (by decide) ?_
                  refine X_iadd C (D (69, .iadd, 1) (mg 42 rfl)) ?_
                  refine X_ti (y := nI (56 + (4) * (v1) + 2)) (nI_add (56 + (4) * (v1)) (2)) ?_
                  refine X_iald (v := h (m + 1) (56 + (4) * (v1) + 2)) C (m + 1) (by omega) hs1 (vp_in_nI (by omega) (by omega)) (D (70, .iaload, 1) (mg 43 rfl)) (by rw [nI_clamp (by omega)]) ?_
                  refine X_cS (As := [.int (nI (t)), .int (h (m + 1) (56 + (4) * (v1) + 1)), .int (h (m + 1) (56 + (4) * (v1) + 2))]) (st := []) C (post := _) (ct_X8_highAs hw (nI (t)) (h (m + 1) (56 + (4) * (v1) + 1)) (h (m + 1) (56 + (4) * (v1) + 2)) h g) kX8_96 (by decide) (by decide) rfl rfl (Nat.le_of_ble_eq_true rfl) (D (71, .invokestatic 96, 3) (mg 44 rfl)) rfl (fun v8 H6 G7 hv8 => ?_)
                  obtain ⟨rfl, rfl, rfl⟩ := hv8
                  show X k w _ 74 [some (.ref (wA w (m))), some (.int (c)), some (.int (dpB (fun kd => ¬ alS h (m + 1) c (kd) (n) = 0) (t))), some (.int (nI (t))), some (.int (alS h (m + 1) c (t) (v1))), some (.int (nI (v1))), some (.int (nI (56 + (4) * (v1))))] [.int (hiA (nI (t)) (h (m + 1) (56 + (4) * (v1) + 1)) (h (m + 1) (56 + (4) * (v1) + 2)))] h g
                  refine X_aload_n C 0 (D (74, .aload_n 0, 1) (mg 45 rfl)) rfl rfl ?_
                  refine X_get (v := .ref (wA w (m + 1))) C (m) 0 (by omega) hsm rfl rfl (by decide) inX8 fX8_7 rfl (D (75, .getfield 7, 3) (mg 46 rfl)) rfl ?_
                  refine X_iload C (D (78, .iload 6, 2) (mg 47 rfl)) rfl ?_
                  refine X_iconst (v := nI (3)) C (D (80, .iconst 3, 1) (mg 48 rfl)) (by decide) ?_
                  refine X_iadd C (D (81, .iadd, 1) (mg 49 rfl)) ?_
                  refine X_ti (y := nI (56 + (4) * (v1) + 3)) (nI_add (56 + (4) * (v1)) (3)) ?_
                  refine X_iald (v := h (m + 1) (56 + (4) * (v1) + 3)) C (m + 1) (by omega) hs1 (vp_in_nI (by omega) (by omega)) (D (82, .iaload, 1) (mg 50 rfl)) (by rw [nI_clamp (by omega)]) ?_
                  refine X_icmp_ne (tgt := 90) C (D (83, .if_icmp .ne 7, 3) (mg 51 rfl)) (by decide) (fun q9 => ?_) (fun q9 => ?_)
                  · skip
                    refine X_iconst (v := nI (0)) C (D (90, .iconst 0, 1) (mg 54 rfl)) (by decide) ?_
                    refine X_istore (ls' := [some (.ref (wA w (m))), some (.int (c)), some (.int (dpB (fun kd => ¬ alS h (m + 1) c (kd) (n) = 0) (t))), some (.int (nI (t))), some (.int (nI (0))), some (.int (nI (v1))), some (.int (nI (56 + (4) * (v1))))]) C (D (91, .istore 4, 2) (mg 55 rfl)) (Nat.le_of_ble_eq_true rfl) rfl ?_
                    refine X_iinc (v := nI (v1 + 1)) (ls' := [some (.ref (wA w (m))), some (.int (c)), some (.int (dpB (fun kd => ¬ alS h (m + 1) c (kd) (n) = 0) (t))), some (.int (nI (t))), some (.int (nI (0))), some (.int (nI (v1 + 1))), some (.int (nI (56 + (4) * (v1))))]) C (D (93, .iinc 5 1, 3) (mg 56 rfl)) rfl (nI_add (v1) 1) rfl ?_
                    refine X_goto (tgt := 16) C (D (96, .goto (-80), 3) (mg 57 rfl)) (by decide) ?_
                    refine X_los (ls' := [some (.ref (wA w (m))), some (.int (c)), some (.int (dpB (fun kd => ¬ alS h (m + 1) c (kd) (n) = 0) (t))), some (.int (nI (t))), some (.int (nI (0))), some (.int (nI (v1 + 1))), none]) (by simp [lsub]) ?_
                    refine X_eq (ls' := [some (.ref (wA w (m))), some (.int (c)), some (.int (dpB (fun kd => ¬ alS h (m + 1) c (kd) (n) = 0) (t))), some (.int (nI (t))), some (.int (alS h (m + 1) c (t) (v1 + 1))), some (.int (nI (v1 + 1))), none]) (st' := []) (h' := h) (g' := g) (by first | rw [show nI (0) = alS h (m + 1) c (t) (v1 + 1) from alB_z (by assumption)] | rw [show nI (0) = alS h (m + 1) c (t) (v1 + 1) from alB_f (by assumption) (fun z => z.elim (fun y => y (by assumption)) (by assumption))]) rfl rfl rfl ?_
                    exact ih16 (v1 + 1) (by omega) (by omega)
                  · skip
                    refine X_iconst (v := nI (1)) C (D (86, .iconst 1, 1) (mg 52 rfl)) (by decide) ?_
                    refine X_goto (tgt := 91) C (D (87, .goto 4, 3) (mg 53 rfl)) (by decide) ?_
                    refine X_istore (ls' := [some (.ref (wA w (m))), some (.int (c)), some (.int (dpB (fun kd => ¬ alS h (m + 1) c (kd) (n) = 0) (t))), some (.int (nI (t))), some (.int (nI (1))), some (.int (nI (v1))), some (.int (nI (56 + (4) * (v1))))]) C (D (91, .istore 4, 2) (mg 55 rfl)) (Nat.le_of_ble_eq_true rfl) rfl ?_
                    refine X_iinc (v := nI (v1 + 1)) (ls' := [some (.ref (wA w (m))), some (.int (c)), some (.int (dpB (fun kd => ¬ alS h (m + 1) c (kd) (n) = 0) (t))), some (.int (nI (t))), some (.int (nI (1))), some (.int (nI (v1 + 1))), some (.int (nI (56 + (4) * (v1))))]) C (D (93, .iinc 5 1, 3) (mg 56 rfl)) rfl (nI_add (v1) 1) rfl ?_
                    refine X_goto (tgt := 16) C (D (96, .goto (-80), 3) (mg 57 rfl)) (by decide) ?_
                    refine X_los (ls' := [some (.ref (wA w (m))), some (.int (c)), some (.int (dpB (fun kd => ¬ alS h (m + 1) c (kd) (n) = 0) (t))), some (.int (nI (t))), some (.int (nI (1))), some (.int (nI (v1 + 1))), none]) (by simp [lsub]) ?_
                    refine X_eq (ls' := [some (.ref (wA w (m))), some (.int (c)), some (.int (dpB (fun kd => ¬ alS h (m + 1) c (kd) (n) = 0) (t))), some (.int (nI (t))), some (.int (alS h (m + 1) c (t) (v1 + 1))), some (.int (nI (v1 + 1))), none]) (st' := []) (h' := h) (g' := g) (by first | rw [show nI (1) = alS h (m + 1) c (t) (v1 + 1) from alB_t (by assumption) (Or.inl (by assumption))] | rw [show nI (1) = alS h (m + 1) c (t) (v1 + 1) from alB_t (by assumption) (Or.inr (by assumption))]) rfl rfl rfl ?_
                    exact ih16 (v1 + 1) (by omega) (by omega)
        refine X_eq (ls' := [some (.ref (wA w (m))), some (.int (c)), some (.int (dpB (fun kd => ¬ alS h (m + 1) c (kd) (n) = 0) (t))), some (.int (nI (t))), some (.int (alS h (m + 1) c (t) (0))), some (.int (nI (0))), none]) (st' := []) (h' := h) (g' := g) rfl rfl rfl rfl ?_
        exact lp16 _ (0) (by omega) (Nat.le_refl _)
  refine X_eq (ls' := [some (.ref (wA w (m))), some (.int (c)), some (.int (dpB (fun kd => ¬ alS h (m + 1) c (kd) (n) = 0) (0))), some (.int (nI (0))), none, none, none]) (st' := []) (h' := h) (g' := g) rfl rfl rfl rfl ?_
  exact lp4 _ (0) (by omega) (Nat.le_refl _)
set_option maxHeartbeats 4000000 in
set_option maxRecDepth 100000 in
theorem ct_X8_said {l : Launch} {w : Kw} (hw : wOk w) {m : Nat} (hM : shM w m) (c : Int32) {n : Nat} (hn : n ≤ 5) (h : xI) (g : xJ) (hb : h (m + 1) 0 = nI n) : Ct l w yX8_said cX8_said 2 (some .int) 2 51 [.ref (wA w (m)), .int (c)] h g (pif (0 ≤ c.toInt ∧ c.toInt < 25) (px (some (.int (dpB (fun kd => ¬ alS h (m + 1) c kd n = 0) 6))) h g) (px (some (.int (-2 : Int32))) (rfH h m 0) g)) := by
  refine Ct_of (ls := [some (.ref (wA w (m))), some (.int (c))]) (by decide) hw (Nat.le_of_ble_eq_true rfl) rfl (fun k hkl C => ?_)
  have C : Cx k w cX8_said RX8 2 (some .int) 2 51 := C
  have D := dtX8_said
  subst hkl
  have hM0 := hM
  obtain ⟨hm, hsm, hs1, hs2, hs3, hs4, hs5, hs6, hs7, hs8, hs9, hs10, hs11⟩ := hM
  have hM := hM0
  refine X_iload_n C 1 (D (0, .iload_n 1, 1) (mg 0 rfl)) rfl rfl ?_
  refine X_cS (As := [.int (c)]) (st := []) C (post := _) (ct_X8_isCell hw (c) h g) kX8_72 (by decide) (by decide) rfl rfl (Nat.le_of_ble_eq_true rfl) (D (1, .invokestatic 72, 3) (mg 1 rfl)) rfl (fun v3 H1 G2 hv3 => ?_)
  obtain ⟨rfl, rfl, rfl⟩ := hv3
  show X k w _ 4 [some (.ref (wA w (m))), some (.int (c))] [.int (if 0 ≤ (c).toInt ∧ (c).toInt < 25 then 1 else 0)] h g
  refine X_if_eq (tgt := 15) C (D (4, .ifCond .eq 11, 3) (mg 2 rfl)) (by decide) (fun q4 => ?_) (fun q4 => ?_)
  · skip
    have q4 : ¬ (0 ≤ (c).toInt ∧ (c).toInt < 25) := bz0.mp q4
    refine X_aload_n C 0 (D (15, .aload_n 0, 1) (mg 7 rfl)) rfl rfl ?_
    refine X_bipush (v := (-2 : Int32)) C (D (16, .bipush (-2), 2) (mg 8 rfl)) (by decide) ?_
    refine X_cV (As := [.int ((-2 : Int32))]) (st := []) C (post := _) (m) (by omega) hsm rfl (ct_X8_bad hw hM ((-2 : Int32)) h g) kX8_75 (by decide) (by decide) rfl rfl (Nat.le_of_ble_eq_true rfl) (D (18, .invokevirtual 75, 3) (mg 9 rfl)) rfl (fun v7 H5 G6 hv7 => ?_)
    obtain ⟨rfl, rfl, rfl⟩ := hv7
    show X k w _ 21 [some (.ref (wA w (m))), some (.int (c))] [.int ((-2 : Int32))] (rfH h m 0) g
    exact X_iret C (D (21, .ireturn, 1) (mg 10 rfl)) ⟨fun z => absurd z (by omega), fun _ => ⟨rfl, rfl, rfl⟩⟩
  · skip
    have q4 : (0 ≤ (c).toInt ∧ (c).toInt < 25) := bz1.mp q4
    refine X_aload_n C 0 (D (7, .aload_n 0, 1) (mg 3 rfl)) rfl rfl ?_
    refine X_iload_n C 1 (D (8, .iload_n 1, 1) (mg 4 rfl)) rfl rfl ?_
    refine X_cV (As := [.int (c)]) (st := []) C (post := _) (m) (by omega) hsm rfl (ct_X8_saidIn hw hM (c) hn h g hb) kX8_188 (by decide) (by decide) rfl rfl (Nat.le_of_ble_eq_true rfl) (D (9, .invokevirtual 188, 3) (mg 5 rfl)) rfl (fun v10 H8 G9 hv10 => ?_)
    obtain ⟨rfl, rfl, rfl⟩ := hv10
    show X k w _ 12 [some (.ref (wA w (m))), some (.int (c))] [.int (dpB (fun kd => ¬ alS h (m + 1) (c) kd n = 0) 6)] h g
    refine X_goto (tgt := 21) C (D (12, .goto 9, 3) (mg 6 rfl)) (by decide) ?_
    exact X_iret C (D (21, .ireturn, 1) (mg 10 rfl)) ⟨fun _ => ⟨rfl, rfl, rfl⟩, fun z => absurd (by omega) z⟩
