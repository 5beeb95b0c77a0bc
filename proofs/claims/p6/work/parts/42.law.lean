/-! THE LAW, 1: its loop -/
def Sc (k : Kx) (b L : Nat) (xs : Nat → Int32) : Prop := match k with
  | (_, _, _, _, s, _, _, _, _, _, A, _, _) => va_X b L xs s s.heap ∧ b < s.heap.size ∧ ¬ A b
section XS
variable {k : Kx} {w : Kw} {cc : ByteArray} {own : String} {nL : Nat} {ret : Option FieldType} {fr lo : Nat} {Z : State → Prop} {pc : Nat} {ls : List (Option Value)} {st : List Value} {h : xI} {g : xJ}
theorem X_sld (C : Cx k w cc own nL ret fr lo) {b L : Nat} {xs : Nat → Int32} (hSc : Sc k b L xs) {i v : Int32} (hin : vp_in i L) (hd : decode cc pc = .ok (.iaload, 1)) (hv : xs i.toNatClampNeg = v) (kk : X k w Z (pc + 1) ls (.int v :: st) h g) : X k w Z pc ls (.int i :: .ref b :: st) h g := by
  obtain ⟨p, l, e, R, s, m, args, below, meth, c, A, cells, slots⟩ := k
  obtain ⟨hx, hb, hR⟩ := C
  intro H locs arr hP hS hl
  subst hv
  exact va_sld hx hb hSc.1 hSc.2.1 hSc.2.2 hS hin hd (kk H locs arr hP hS hl)
theorem X_slen (C : Cx k w cc own nL ret fr lo) {b L : Nat} {xs : Nat → Int32} (hSc : Sc k b L xs) {v : Int32} (hv : Int32.ofNat L = v) (hd : decode cc pc = .ok (.arraylength, 1)) (kk : X k w Z (pc + 1) ls (.int v :: st) h g) : X k w Z pc ls (.ref b :: st) h g := by
  obtain ⟨p, l, e, R, s, m, args, below, meth, c, A, cells, slots⟩ := k
  obtain ⟨hx, hb, hR⟩ := C
  intro H locs arr hP hS hl
  subst hv
  exact va_slen hx hb hSc.1 hSc.2.1 hSc.2.2 hS hd (kk H locs arr hP hS hl)
end XS
theorem law_lt {i L : Nat} (h : ¬ (nI L - nI 5) < nI i) (hi : i < 2 ^ 30) (hL : L < 2 ^ 30) : i + 5 ≤ L := by
  rw [Int32.lt_iff_toInt_lt, pk_sub_toInt hL (by omega), nI_i2 (by omega)] at h
  omega
theorem tyC_f {x nt : Nat} {a : Int32} {h h' : xI} {g g' : xJ} {v : Option Value} (H : tyC x nt a h g v h' g') {q i : Nat} (hq : x + 38 < q) : h' q i = h q i := by
  by_cases z : 0 ≤ a.toInt ∧ a.toInt < 128
  · by_cases z2 : nt = 150
    · obtain ⟨-, rfl, -⟩ := (H.1 z).1 z2; exact rcH_ne _ _ _ (by omega)
    · obtain ⟨-, rfl, -⟩ := (H.1 z).2 z2; rw [u2_ne _ _ _ _ (by omega), u2_ne _ _ _ _ (by omega)]
  · obtain ⟨-, rfl, -⟩ := H.2 z; exact rcH_ne _ _ _ (by omega)
theorem sw_0_33 (x : Int32) : x = 0 ∨ x = 1 ∨ x = 2 ∨ x = 3 ∨ x = 4 ∨ x = 5 ∨ x = 6 ∨ x = 7 ∨ x = 8 ∨ x = 9 ∨ x = 10 ∨ x = 11 ∨ x = 12 ∨ x = 13 ∨ x = 14 ∨ x = 15 ∨ x = 16 ∨ x = 17 ∨ x = 18 ∨ x = 19 ∨ x = 20 ∨ x = 21 ∨ x = 22 ∨ x = 23 ∨ x = 24 ∨ x = 25 ∨ x = 26 ∨ x = 27 ∨ x = 28 ∨ x = 29 ∨ x = 30 ∨ x = 31 ∨ x = 32 ∨ x = 33 ∨ (x.toInt < 0 ∨ 33 < x.toInt) := by
  have e : ∀ y : Int32, x = y ↔ x.toInt = y.toInt := fun y => Int32.toInt_inj.symm
  simp only [e, show (0 : Int32).toInt = 0 from by decide, show (1 : Int32).toInt = 1 from by decide, show (2 : Int32).toInt = 2 from by decide, show (3 : Int32).toInt = 3 from by decide, show (4 : Int32).toInt = 4 from by decide, show (5 : Int32).toInt = 5 from by decide, show (6 : Int32).toInt = 6 from by decide, show (7 : Int32).toInt = 7 from by decide, show (8 : Int32).toInt = 8 from by decide, show (9 : Int32).toInt = 9 from by decide, show (10 : Int32).toInt = 10 from by decide, show (11 : Int32).toInt = 11 from by decide, show (12 : Int32).toInt = 12 from by decide, show (13 : Int32).toInt = 13 from by decide, show (14 : Int32).toInt = 14 from by decide, show (15 : Int32).toInt = 15 from by decide, show (16 : Int32).toInt = 16 from by decide, show (17 : Int32).toInt = 17 from by decide, show (18 : Int32).toInt = 18 from by decide, show (19 : Int32).toInt = 19 from by decide, show (20 : Int32).toInt = 20 from by decide, show (21 : Int32).toInt = 21 from by decide, show (22 : Int32).toInt = 22 from by decide, show (23 : Int32).toInt = 23 from by decide, show (24 : Int32).toInt = 24 from by decide, show (25 : Int32).toInt = 25 from by decide, show (26 : Int32).toInt = 26 from by decide, show (27 : Int32).toInt = 27 from by decide, show (28 : Int32).toInt = 28 from by decide, show (29 : Int32).toInt = 29 from by decide, show (30 : Int32).toInt = 30 from by decide, show (31 : Int32).toInt = 31 from by decide, show (32 : Int32).toInt = 32 from by decide, show (33 : Int32).toInt = 33 from by decide]
  omega
set_option maxHeartbeats 40000000 in
set_option maxRecDepth 100000 in
theorem law_loop {k : Kx} {w : Kw} {Z0 : State → Prop} (hw : wOk w) {x m b L : Nat} {xs : Nat → Int32} {aK aV : Nat → Nat} {zr : Value} (hs : sOk w aK aV zr) (hz : zr = .null ∨ ∃ ra, zr = .ref ra) (hC : shC w x) (hM : shM w m) (hxm : x + 38 < m) (hL : L ≤ 2560) (C : Cx k w cL_law RL 4 (some .boolean) 11 384) (hSc : Sc k b L xs) (hend : ∀ ls h g, X k w Z0 1083 ls [.int (nI 1)] h g) (h : xI) (g : xJ) (hJ0 : J x m h) : X k w Z0 18 [some (.ref b), some (.ref (wA w x)), some (.ref (wA w m)), some (.int (nI 0))] [] h g := by
  have hxn := hC.1
  have hmn := hM.1
  have lp18 : ∀ (nn18 : Nat) (i3 : Nat) (hp18 : xI) (gp18 : xJ), (i3 ≤ L) → (J x m hp18) → L + 1 - i3 ≤ nn18 → X k w Z0 18 [some (.ref b), some (.ref (wA w (x))), some (.ref (wA w (m))), some (.int (nI (i3)))] [] hp18 gp18 := by
    intro nn18
    induction nn18 with
    | zero => intro i3 hp18 gp18 hc18_0 hc18_1 hz; exact absurd hz (by omega)
    | succ nn18 ih18 =>
      intro i3 hp18 gp18 hc18_0 hc18_1 hz18
      have hJ := hc18_1
      obtain ⟨⟨-, -, ⟨ns, hns, hse⟩, ⟨nm, hnm, hma⟩⟩, -, -, ⟨nt, hnt, htx⟩, -⟩ := id hJ.1
      refine X_iload_n C 3 (dtL_0 (18, .iload_n 3, 1) (mg 10 rfl)) rfl rfl ?_
      refine X_aload_n C 0 (dtL_0 (19, .aload_n 0, 1) (mg 11 rfl)) rfl rfl ?_
      refine X_slen (v := nI L) C hSc rfl (dtL_0 (20, .arraylength, 1) (mg 12 rfl)) ?_
      refine X_iconst (v := nI (5)) C (dtL_0 (21, .iconst 5, 1) (mg 13 rfl)) (by decide) ?_
      refine X_isub C (dtL_0 (22, .isub, 1) (mg 14 rfl)) ?_
      refine X_icmp_gt (tgt := 1082) C (dtL_0 (23, .if_icmp .gt 1059, 3) (mg 15 rfl)) (by decide) (fun q1 => ?_) (fun q1 => ?_)
      · skip
        refine X_iconst (v := nI (1)) C (dtL_14 (1082, .iconst 1, 1) (mg 12 rfl)) (by decide) ?_
        exact hend _ _ _
      · skip
        have hlt : i3 + 5 ≤ L := law_lt q1 (by omega) (by omega)
        refine X_aload_n C 0 (dtL_0 (26, .aload_n 0, 1) (mg 16 rfl)) rfl rfl ?_
        refine X_iload_n C 3 (dtL_0 (27, .iload_n 3, 1) (mg 17 rfl)) rfl rfl ?_
        refine X_sld (v := xs (i3)) C hSc (vp_in_nI (by omega) (by omega)) (dtL_0 (28, .iaload, 1) (mg 18 rfl)) (by rw [nI_clamp (by omega)]) ?_
        refine X_bipush (v := nI (63)) C (dtL_0 (29, .bipush 63, 2) (mg 19 rfl)) (by decide) ?_
        refine X_iand C (dtL_0 (31, .iand, 1) (mg 20 rfl)) ?_
        rcases sw_0_33 ((xs (i3)) &&& (nI (63))) with q2 | q2 | q2 | q2 | q2 | q2 | q2 | q2 | q2 | q2 | q2 | q2 | q2 | q2 | q2 | q2 | q2 | q2 | q2 | q2 | q2 | q2 | q2 | q2 | q2 | q2 | q2 | q2 | q2 | q2 | q2 | q2 | q2 | q2 | q2
        · refine X_swIn (tgt := 184) C (dtL_0 (32, .tableswitch 1044 0 33 #[152, 185, 208, 241, 264, 277, 290, 323, 346, 369, 392, 405, 438, 471, 504, 527, 560, 593, 646, 669, 692, 735, 758, 771, 784, 817, 850, 883, 916, 939, 962, 985, 1008, 1031], 152) (mg 21 rfl)) (0) (by rw [q2]; decide) (by decide) (by decide) rfl (by decide) ?_
          refine X_aload_n C 1 (dtL_0 (184, .aload_n 1, 1) (mg 22 rfl)) rfl rfl ?_
          refine X_aload_n C 0 (dtL_0 (185, .aload_n 0, 1) (mg 23 rfl)) rfl rfl ?_
          refine X_iload_n C 3 (dtL_0 (186, .iload_n 3, 1) (mg 24 rfl)) rfl rfl ?_
          refine X_iconst (v := nI (1)) C (dtL_0 (187, .iconst 1, 1) (mg 25 rfl)) (by decide) ?_
          refine X_iadd C (dtL_0 (188, .iadd, 1) (mg 26 rfl)) ?_
          refine X_ti (y := nI (i3 + 1)) (nI_add (i3) (1)) ?_
          refine X_sld (v := xs (i3 + 1)) C hSc (vp_in_nI (by omega) (by omega)) (dtL_0 (189, .iaload, 1) (mg 27 rfl)) (by rw [nI_clamp (by omega)]) ?_
          refine X_aload_n C 0 (dtL_0 (190, .aload_n 0, 1) (mg 28 rfl)) rfl rfl ?_
          refine X_iload_n C 3 (dtL_0 (191, .iload_n 3, 1) (mg 29 rfl)) rfl rfl ?_
          refine X_iconst (v := nI (2)) C (dtL_0 (192, .iconst 2, 1) (mg 30 rfl)) (by decide) ?_
          refine X_iadd C (dtL_0 (193, .iadd, 1) (mg 31 rfl)) ?_
          refine X_ti (y := nI (i3 + 2)) (nI_add (i3) (2)) ?_
          refine X_sld (v := xs (i3 + 2)) C hSc (vp_in_nI (by omega) (by omega)) (dtL_0 (194, .iaload, 1) (mg 32 rfl)) (by rw [nI_clamp (by omega)]) ?_
          refine X_cV (As := [.int (xs (i3 + 1)), .int (xs (i3 + 2))]) (st := []) C (post := _) (x) (by omega) hC.2.1 rfl (ct_X7_nave hw hC (xs (i3 + 1)) (xs (i3 + 2)) hp18 gp18) kL_13 (by decide) (by decide) rfl rfl (Nat.le_of_ble_eq_true rfl) (dtL_0 (195, .invokevirtual 13, 3) (mg 33 rfl)) rfl (fun v5 H3 G4 hv5 => ?_)
          obtain ⟨⟨y1_, rfl⟩, hk1_⟩ := cKp_nave hJ.1 hv5
          show X k w _ 198 [some (.ref b), some (.ref (wA w (x))), some (.ref (wA w (m))), some (.int (nI (i3)))] [.int (y1_)] H3 G4
          have hMk := J_1 hxm hJ hk1_
          obtain ⟨⟨⟨nu, hnu, eu⟩, ⟨c0, hc0, hat⟩, -⟩, ⟨⟨ms, hms, ese⟩, ⟨mm, hmm, ema⟩⟩, -, ⟨mt, hmt, etx⟩⟩ := id hMk
          refine X_pop C (dtL_0 (198, .pop, 1) (mg 34 rfl)) rfl ?_
          refine X_aload_n C 2 (dtL_0 (199, .aload_n 2, 1) (mg 35 rfl)) rfl rfl ?_
          refine X_aload_n C 0 (dtL_0 (200, .aload_n 0, 1) (mg 36 rfl)) rfl rfl ?_
          refine X_iload_n C 3 (dtL_0 (201, .iload_n 3, 1) (mg 37 rfl)) rfl rfl ?_
          refine X_iconst (v := nI (1)) C (dtL_0 (202, .iconst 1, 1) (mg 38 rfl)) (by decide) ?_
          refine X_iadd C (dtL_0 (203, .iadd, 1) (mg 39 rfl)) ?_
          refine X_ti (y := nI (i3 + 1)) (nI_add (i3) (1)) ?_
          refine X_sld (v := xs (i3 + 1)) C hSc (vp_in_nI (by omega) (by omega)) (dtL_0 (204, .iaload, 1) (mg 40 rfl)) (by rw [nI_clamp (by omega)]) ?_
          refine X_aload_n C 0 (dtL_0 (205, .aload_n 0, 1) (mg 41 rfl)) rfl rfl ?_
          refine X_iload_n C 3 (dtL_0 (206, .iload_n 3, 1) (mg 42 rfl)) rfl rfl ?_
          refine X_iconst (v := nI (2)) C (dtL_0 (207, .iconst 2, 1) (mg 43 rfl)) (by decide) ?_
          refine X_iadd C (dtL_0 (208, .iadd, 1) (mg 44 rfl)) ?_
          refine X_ti (y := nI (i3 + 2)) (nI_add (i3) (2)) ?_
          refine X_sld (v := xs (i3 + 2)) C hSc (vp_in_nI (by omega) (by omega)) (dtL_0 (209, .iaload, 1) (mg 45 rfl)) (by rw [nI_clamp (by omega)]) ?_
          refine X_cV (As := [.int (xs (i3 + 1)), .int (xs (i3 + 2))]) (st := []) C (post := _) (m) (by omega) hM.2.1 rfl (ct_X8_nave hw hM (xs (i3 + 1)) (xs (i3 + 2)) H3 G4) kL_17 (by decide) (by decide) rfl rfl (Nat.le_of_ble_eq_true rfl) (dtL_0 (210, .invokevirtual 17, 3) (mg 46 rfl)) rfl (fun v8 H6 G7 hv8 => ?_)
          obtain ⟨⟨y2_, rfl⟩, hk2_⟩ := mKp_nave hMk hv8
          have hJ2_ := J_kk hxm hJ hk1_ hk2_
          show X k w _ 213 [some (.ref b), some (.ref (wA w (x))), some (.ref (wA w (m))), some (.int (nI (i3)))] [.int (y2_)] H6 G7
          refine X_pop C (dtL_0 (213, .pop, 1) (mg 47 rfl)) rfl ?_
          refine X_goto (tgt := 1076) C (dtL_0 (214, .goto 862, 3) (mg 48 rfl)) (by decide) ?_
          refine X_iinc (v := nI (i3 + 5)) (ls' := [some (.ref b), some (.ref (wA w (x))), some (.ref (wA w (m))), some (.int (nI (i3 + 5)))]) C (dtL_14 (1076, .iinc 3 5, 3) (mg 10 rfl)) rfl (nI_add (i3) 5) rfl ?_
          refine X_goto (tgt := 18) C (dtL_14 (1079, .goto (-1061), 3) (mg 11 rfl)) (by decide) ?_
          refine X_eq (ls' := [some (.ref b), some (.ref (wA w (x))), some (.ref (wA w (m))), some (.int (nI (i3 + 5)))]) (st' := []) (h' := H6) (g' := G7) rfl rfl rfl rfl ?_
          exact ih18 (i3 + 5) (H6) (G7) (by omega) hJ2_ (by omega)
        · refine X_swIn (tgt := 217) C (dtL_0 (32, .tableswitch 1044 0 33 #[152, 185, 208, 241, 264, 277, 290, 323, 346, 369, 392, 405, 438, 471, 504, 527, 560, 593, 646, 669, 692, 735, 758, 771, 784, 817, 850, 883, 916, 939, 962, 985, 1008, 1031], 152) (mg 21 rfl)) (1) (by rw [q2]; decide) (by decide) (by decide) rfl (by decide) ?_
          refine X_aload_n C 1 (dtL_0 (217, .aload_n 1, 1) (mg 49 rfl)) rfl rfl ?_
          refine X_aload_n C 0 (dtL_1 (218, .aload_n 0, 1) (mg 0 rfl)) rfl rfl ?_
          refine X_iload_n C 3 (dtL_1 (219, .iload_n 3, 1) (mg 1 rfl)) rfl rfl ?_
          refine X_iconst (v := nI (1)) C (dtL_1 (220, .iconst 1, 1) (mg 2 rfl)) (by decide) ?_
          refine X_iadd C (dtL_1 (221, .iadd, 1) (mg 3 rfl)) ?_
          refine X_ti (y := nI (i3 + 1)) (nI_add (i3) (1)) ?_
          refine X_sld (v := xs (i3 + 1)) C hSc (vp_in_nI (by omega) (by omega)) (dtL_1 (222, .iaload, 1) (mg 4 rfl)) (by rw [nI_clamp (by omega)]) ?_
          refine X_cV (As := [.int (xs (i3 + 1))]) (st := []) C (post := _) (x) (by omega) hC.2.1 rfl (ct_X7_harrow hw hC (xs (i3 + 1)) hp18 gp18) kL_18 (by decide) (by decide) rfl rfl (Nat.le_of_ble_eq_true rfl) (dtL_1 (223, .invokevirtual 18, 3) (mg 5 rfl)) rfl (fun v11 H9 G10 hv11 => ?_)
          obtain ⟨⟨y1_, rfl⟩, hk1_⟩ := cKp_harrow hJ.1 hv11
          show X k w _ 226 [some (.ref b), some (.ref (wA w (x))), some (.ref (wA w (m))), some (.int (nI (i3)))] [.int (y1_)] H9 G10
          have hMk := J_1 hxm hJ hk1_
          obtain ⟨⟨⟨nu, hnu, eu⟩, ⟨c0, hc0, hat⟩, -⟩, ⟨⟨ms, hms, ese⟩, ⟨mm, hmm, ema⟩⟩, -, ⟨mt, hmt, etx⟩⟩ := id hMk
          refine X_pop C (dtL_1 (226, .pop, 1) (mg 6 rfl)) rfl ?_
          refine X_aload_n C 2 (dtL_1 (227, .aload_n 2, 1) (mg 7 rfl)) rfl rfl ?_
          refine X_aload_n C 0 (dtL_1 (228, .aload_n 0, 1) (mg 8 rfl)) rfl rfl ?_
          refine X_iload_n C 3 (dtL_1 (229, .iload_n 3, 1) (mg 9 rfl)) rfl rfl ?_
          refine X_iconst (v := nI (1)) C (dtL_1 (230, .iconst 1, 1) (mg 10 rfl)) (by decide) ?_
          refine X_iadd C (dtL_1 (231, .iadd, 1) (mg 11 rfl)) ?_
          refine X_ti (y := nI (i3 + 1)) (nI_add (i3) (1)) ?_
          refine X_sld (v := xs (i3 + 1)) C hSc (vp_in_nI (by omega) (by omega)) (dtL_1 (232, .iaload, 1) (mg 12 rfl)) (by rw [nI_clamp (by omega)]) ?_
          refine X_cV (As := [.int (xs (i3 + 1))]) (st := []) C (post := _) (m) (by omega) hM.2.1 rfl (ct_X8_harrow hw hM (xs (i3 + 1)) H9 G10) kL_22 (by decide) (by decide) rfl rfl (Nat.le_of_ble_eq_true rfl) (dtL_1 (233, .invokevirtual 22, 3) (mg 13 rfl)) rfl (fun v14 H12 G13 hv14 => ?_)
          obtain ⟨⟨y2_, rfl⟩, hk2_⟩ := mKp_harrow hMk hv14
          have hJ2_ := J_kk hxm hJ hk1_ hk2_
          show X k w _ 236 [some (.ref b), some (.ref (wA w (x))), some (.ref (wA w (m))), some (.int (nI (i3)))] [.int (y2_)] H12 G13
          refine X_pop C (dtL_1 (236, .pop, 1) (mg 14 rfl)) rfl ?_
          refine X_goto (tgt := 1076) C (dtL_1 (237, .goto 839, 3) (mg 15 rfl)) (by decide) ?_
          refine X_iinc (v := nI (i3 + 5)) (ls' := [some (.ref b), some (.ref (wA w (x))), some (.ref (wA w (m))), some (.int (nI (i3 + 5)))]) C (dtL_14 (1076, .iinc 3 5, 3) (mg 10 rfl)) rfl (nI_add (i3) 5) rfl ?_
          refine X_goto (tgt := 18) C (dtL_14 (1079, .goto (-1061), 3) (mg 11 rfl)) (by decide) ?_
          refine X_eq (ls' := [some (.ref b), some (.ref (wA w (x))), some (.ref (wA w (m))), some (.int (nI (i3 + 5)))]) (st' := []) (h' := H12) (g' := G13) rfl rfl rfl rfl ?_
          exact ih18 (i3 + 5) (H12) (G13) (by omega) hJ2_ (by omega)
        · refine X_swIn (tgt := 240) C (dtL_0 (32, .tableswitch 1044 0 33 #[152, 185, 208, 241, 264, 277, 290, 323, 346, 369, 392, 405, 438, 471, 504, 527, 560, 593, 646, 669, 692, 735, 758, 771, 784, 817, 850, 883, 916, 939, 962, 985, 1008, 1031], 152) (mg 21 rfl)) (2) (by rw [q2]; decide) (by decide) (by decide) rfl (by decide) ?_
          refine X_aload_n C 1 (dtL_1 (240, .aload_n 1, 1) (mg 16 rfl)) rfl rfl ?_
          refine X_aload_n C 0 (dtL_1 (241, .aload_n 0, 1) (mg 17 rfl)) rfl rfl ?_
          refine X_iload_n C 3 (dtL_1 (242, .iload_n 3, 1) (mg 18 rfl)) rfl rfl ?_
          refine X_iconst (v := nI (1)) C (dtL_1 (243, .iconst 1, 1) (mg 19 rfl)) (by decide) ?_
          refine X_iadd C (dtL_1 (244, .iadd, 1) (mg 20 rfl)) ?_
          refine X_ti (y := nI (i3 + 1)) (nI_add (i3) (1)) ?_
          refine X_sld (v := xs (i3 + 1)) C hSc (vp_in_nI (by omega) (by omega)) (dtL_1 (245, .iaload, 1) (mg 21 rfl)) (by rw [nI_clamp (by omega)]) ?_
          refine X_aload_n C 0 (dtL_1 (246, .aload_n 0, 1) (mg 22 rfl)) rfl rfl ?_
          refine X_iload_n C 3 (dtL_1 (247, .iload_n 3, 1) (mg 23 rfl)) rfl rfl ?_
          refine X_iconst (v := nI (2)) C (dtL_1 (248, .iconst 2, 1) (mg 24 rfl)) (by decide) ?_
          refine X_iadd C (dtL_1 (249, .iadd, 1) (mg 25 rfl)) ?_
          refine X_ti (y := nI (i3 + 2)) (nI_add (i3) (2)) ?_
          refine X_sld (v := xs (i3 + 2)) C hSc (vp_in_nI (by omega) (by omega)) (dtL_1 (250, .iaload, 1) (mg 26 rfl)) (by rw [nI_clamp (by omega)]) ?_
          refine X_cV (As := [.int (xs (i3 + 1)), .int (xs (i3 + 2))]) (st := []) C (post := _) (x) (by omega) hC.2.1 rfl (ct_X7_stony hw hC (xs (i3 + 1)) (xs (i3 + 2)) hp18 gp18) kL_23 (by decide) (by decide) rfl rfl (Nat.le_of_ble_eq_true rfl) (dtL_1 (251, .invokevirtual 23, 3) (mg 27 rfl)) rfl (fun v17 H15 G16 hv17 => ?_)
          obtain ⟨⟨y1_, rfl⟩, hk1_⟩ := cKp_stony hJ.1 hv17
          show X k w _ 254 [some (.ref b), some (.ref (wA w (x))), some (.ref (wA w (m))), some (.int (nI (i3)))] [.int (y1_)] H15 G16
          have hMk := J_1 hxm hJ hk1_
          obtain ⟨⟨⟨nu, hnu, eu⟩, ⟨c0, hc0, hat⟩, -⟩, ⟨⟨ms, hms, ese⟩, ⟨mm, hmm, ema⟩⟩, -, ⟨mt, hmt, etx⟩⟩ := id hMk
          refine X_pop C (dtL_1 (254, .pop, 1) (mg 28 rfl)) rfl ?_
          refine X_aload_n C 2 (dtL_1 (255, .aload_n 2, 1) (mg 29 rfl)) rfl rfl ?_
          refine X_aload_n C 0 (dtL_1 (256, .aload_n 0, 1) (mg 30 rfl)) rfl rfl ?_
          refine X_iload_n C 3 (dtL_1 (257, .iload_n 3, 1) (mg 31 rfl)) rfl rfl ?_
          refine X_iconst (v := nI (1)) C (dtL_1 (258, .iconst 1, 1) (mg 32 rfl)) (by decide) ?_
          refine X_iadd C (dtL_1 (259, .iadd, 1) (mg 33 rfl)) ?_
          refine X_ti (y := nI (i3 + 1)) (nI_add (i3) (1)) ?_
          refine X_sld (v := xs (i3 + 1)) C hSc (vp_in_nI (by omega) (by omega)) (dtL_1 (260, .iaload, 1) (mg 34 rfl)) (by rw [nI_clamp (by omega)]) ?_
          refine X_aload_n C 0 (dtL_1 (261, .aload_n 0, 1) (mg 35 rfl)) rfl rfl ?_
          refine X_iload_n C 3 (dtL_1 (262, .iload_n 3, 1) (mg 36 rfl)) rfl rfl ?_
          refine X_iconst (v := nI (2)) C (dtL_1 (263, .iconst 2, 1) (mg 37 rfl)) (by decide) ?_
          refine X_iadd C (dtL_1 (264, .iadd, 1) (mg 38 rfl)) ?_
          refine X_ti (y := nI (i3 + 2)) (nI_add (i3) (2)) ?_
          refine X_sld (v := xs (i3 + 2)) C hSc (vp_in_nI (by omega) (by omega)) (dtL_1 (265, .iaload, 1) (mg 39 rfl)) (by rw [nI_clamp (by omega)]) ?_
          refine X_cV (As := [.int (xs (i3 + 1)), .int (xs (i3 + 2))]) (st := []) C (post := _) (m) (by omega) hM.2.1 rfl (ct_X8_stony hw hM (xs (i3 + 1)) (xs (i3 + 2)) H15 G16) kL_26 (by decide) (by decide) rfl rfl (Nat.le_of_ble_eq_true rfl) (dtL_1 (266, .invokevirtual 26, 3) (mg 40 rfl)) rfl (fun v20 H18 G19 hv20 => ?_)
          obtain ⟨⟨y2_, rfl⟩, hk2_⟩ := mKp_stony hMk hv20
          have hJ2_ := J_kk hxm hJ hk1_ hk2_
          show X k w _ 269 [some (.ref b), some (.ref (wA w (x))), some (.ref (wA w (m))), some (.int (nI (i3)))] [.int (y2_)] H18 G19
          refine X_pop C (dtL_1 (269, .pop, 1) (mg 41 rfl)) rfl ?_
          refine X_goto (tgt := 1076) C (dtL_1 (270, .goto 806, 3) (mg 42 rfl)) (by decide) ?_
          refine X_iinc (v := nI (i3 + 5)) (ls' := [some (.ref b), some (.ref (wA w (x))), some (.ref (wA w (m))), some (.int (nI (i3 + 5)))]) C (dtL_14 (1076, .iinc 3 5, 3) (mg 10 rfl)) rfl (nI_add (i3) 5) rfl ?_
          refine X_goto (tgt := 18) C (dtL_14 (1079, .goto (-1061), 3) (mg 11 rfl)) (by decide) ?_
          refine X_eq (ls' := [some (.ref b), some (.ref (wA w (x))), some (.ref (wA w (m))), some (.int (nI (i3 + 5)))]) (st' := []) (h' := H18) (g' := G19) rfl rfl rfl rfl ?_
          exact ih18 (i3 + 5) (H18) (G19) (by omega) hJ2_ (by omega)
        · refine X_swIn (tgt := 273) C (dtL_0 (32, .tableswitch 1044 0 33 #[152, 185, 208, 241, 264, 277, 290, 323, 346, 369, 392, 405, 438, 471, 504, 527, 560, 593, 646, 669, 692, 735, 758, 771, 784, 817, 850, 883, 916, 939, 962, 985, 1008, 1031], 152) (mg 21 rfl)) (3) (by rw [q2]; decide) (by decide) (by decide) rfl (by decide) ?_
          refine X_aload_n C 1 (dtL_1 (273, .aload_n 1, 1) (mg 43 rfl)) rfl rfl ?_
          refine X_aload_n C 0 (dtL_1 (274, .aload_n 0, 1) (mg 44 rfl)) rfl rfl ?_
          refine X_iload_n C 3 (dtL_1 (275, .iload_n 3, 1) (mg 45 rfl)) rfl rfl ?_
          refine X_iconst (v := nI (1)) C (dtL_1 (276, .iconst 1, 1) (mg 46 rfl)) (by decide) ?_
          refine X_iadd C (dtL_1 (277, .iadd, 1) (mg 47 rfl)) ?_
          refine X_ti (y := nI (i3 + 1)) (nI_add (i3) (1)) ?_
          refine X_sld (v := xs (i3 + 1)) C hSc (vp_in_nI (by omega) (by omega)) (dtL_1 (278, .iaload, 1) (mg 48 rfl)) (by rw [nI_clamp (by omega)]) ?_
          refine X_cV (As := [.int (xs (i3 + 1))]) (st := []) C (post := _) (x) (by omega) hC.2.1 rfl (ct_X7_type hw hC (xs (i3 + 1)) (nt := nt) hnt hp18 gp18 htx) kL_27 (by decide) (by decide) rfl rfl (Nat.le_of_ble_eq_true rfl) (dtL_1 (279, .invokevirtual 27, 3) (mg 49 rfl)) rfl (fun v23 H21 G22 hv23 => ?_)
          have hv1_ := hv23
          obtain ⟨y1_, rfl⟩ := tyC_i (x := x) (nt := nt) (a := xs (i3 + 1)) hv1_
          show X k w _ 282 [some (.ref b), some (.ref (wA w (x))), some (.ref (wA w (m))), some (.int (nI (i3)))] [.int (y1_)] H21 G22
          have etx_ : H21 m 11 = nI nt := (tyC_f (x := x) (nt := nt) (a := xs (i3 + 1)) hv1_ (by omega)).trans (hJ.2.2.1.symm.trans htx)
          refine X_pop C (dtL_2 (282, .pop, 1) (mg 0 rfl)) rfl ?_
          refine X_aload_n C 2 (dtL_2 (283, .aload_n 2, 1) (mg 1 rfl)) rfl rfl ?_
          refine X_aload_n C 0 (dtL_2 (284, .aload_n 0, 1) (mg 2 rfl)) rfl rfl ?_
          refine X_iload_n C 3 (dtL_2 (285, .iload_n 3, 1) (mg 3 rfl)) rfl rfl ?_
          refine X_iconst (v := nI (1)) C (dtL_2 (286, .iconst 1, 1) (mg 4 rfl)) (by decide) ?_
          refine X_iadd C (dtL_2 (287, .iadd, 1) (mg 5 rfl)) ?_
          refine X_ti (y := nI (i3 + 1)) (nI_add (i3) (1)) ?_
          refine X_sld (v := xs (i3 + 1)) C hSc (vp_in_nI (by omega) (by omega)) (dtL_2 (288, .iaload, 1) (mg 6 rfl)) (by rw [nI_clamp (by omega)]) ?_
          refine X_cV (As := [.int (xs (i3 + 1))]) (st := []) C (post := _) (m) (by omega) hM.2.1 rfl (ct_X8_type hw hM (xs (i3 + 1)) (n := nt) hnt H21 G22 etx_) kL_30 (by decide) (by decide) rfl rfl (Nat.le_of_ble_eq_true rfl) (dtL_2 (289, .invokevirtual 30, 3) (mg 7 rfl)) rfl (fun v26 H24 G25 hv26 => ?_)
          have hv2_ := hv26
          obtain ⟨y2_, rfl⟩ := tyM_i (m := m) (nt := nt) (a := xs (i3 + 1)) hv2_
          obtain ⟨hJ2_, hvv_⟩ := J_type (nt := nt) (a := xs (i3 + 1)) hxm hJ hnt hv1_ hv2_
          have heq_ : y1_ = y2_ := by injection hvv_ with z; injection z
          show X k w _ 292 [some (.ref b), some (.ref (wA w (x))), some (.ref (wA w (m))), some (.int (nI (i3)))] [.int (y2_)] H24 G25
          refine X_pop C (dtL_2 (292, .pop, 1) (mg 8 rfl)) rfl ?_
          refine X_goto (tgt := 1076) C (dtL_2 (293, .goto 783, 3) (mg 9 rfl)) (by decide) ?_
          refine X_iinc (v := nI (i3 + 5)) (ls' := [some (.ref b), some (.ref (wA w (x))), some (.ref (wA w (m))), some (.int (nI (i3 + 5)))]) C (dtL_14 (1076, .iinc 3 5, 3) (mg 10 rfl)) rfl (nI_add (i3) 5) rfl ?_
          refine X_goto (tgt := 18) C (dtL_14 (1079, .goto (-1061), 3) (mg 11 rfl)) (by decide) ?_
          refine X_eq (ls' := [some (.ref b), some (.ref (wA w (x))), some (.ref (wA w (m))), some (.int (nI (i3 + 5)))]) (st' := []) (h' := H24) (g' := G25) rfl rfl rfl rfl ?_
          exact ih18 (i3 + 5) (H24) (G25) (by omega) hJ2_ (by omega)
        · refine X_swIn (tgt := 296) C (dtL_0 (32, .tableswitch 1044 0 33 #[152, 185, 208, 241, 264, 277, 290, 323, 346, 369, 392, 405, 438, 471, 504, 527, 560, 593, 646, 669, 692, 735, 758, 771, 784, 817, 850, 883, 916, 939, 962, 985, 1008, 1031], 152) (mg 21 rfl)) (4) (by rw [q2]; decide) (by decide) (by decide) rfl (by decide) ?_
          refine X_aload_n C 1 (dtL_2 (296, .aload_n 1, 1) (mg 10 rfl)) rfl rfl ?_
          refine X_cV (As := []) (st := []) C (post := _) (x) (by omega) hC.2.1 rfl (ct_X7_clear hw hC  hp18 gp18) kL_31 (by decide) (by decide) rfl rfl (Nat.le_of_ble_eq_true rfl) (dtL_2 (297, .invokevirtual 31, 3) (mg 11 rfl)) rfl (fun v29 H27 G28 hv29 => ?_)
          have hv1_ := hv29
          obtain ⟨y1_, rfl⟩ := isI_x hv1_
          show X k w _ 300 [some (.ref b), some (.ref (wA w (x))), some (.ref (wA w (m))), some (.int (nI (i3)))] [.int (y1_)] H27 G28
          refine X_aload_n C 2 (dtL_2 (300, .aload_n 2, 1) (mg 12 rfl)) rfl rfl ?_
          refine X_cV (As := []) (st := [.int (y1_)]) C (post := _) (m) (by omega) hM.2.1 rfl (ct_X8_clear hw hM  H27 G28) kL_35 (by decide) (by decide) rfl rfl (Nat.le_of_ble_eq_true rfl) (dtL_2 (301, .invokevirtual 35, 3) (mg 13 rfl)) rfl (fun v32 H30 G31 hv32 => ?_)
          have hv2_ := hv32
          obtain ⟨y2_, rfl⟩ := isI_x hv2_
          obtain ⟨hJ2_, hvv_⟩ := J_clear hxm hJ hv1_ hv2_
          have heq_ : y1_ = y2_ := by injection hvv_ with z; injection z
          show X k w _ 304 [some (.ref b), some (.ref (wA w (x))), some (.ref (wA w (m))), some (.int (nI (i3)))] [.int (y2_), .int (y1_)] H30 G31
          refine X_icmp_eq (tgt := 1076) C (dtL_2 (304, .if_icmp .eq 772, 3) (mg 14 rfl)) (by decide) (fun q33 => ?_) (fun q33 => ?_)
          · skip
            refine X_iinc (v := nI (i3 + 5)) (ls' := [some (.ref b), some (.ref (wA w (x))), some (.ref (wA w (m))), some (.int (nI (i3 + 5)))]) C (dtL_14 (1076, .iinc 3 5, 3) (mg 10 rfl)) rfl (nI_add (i3) 5) rfl ?_
            refine X_goto (tgt := 18) C (dtL_14 (1079, .goto (-1061), 3) (mg 11 rfl)) (by decide) ?_
            refine X_eq (ls' := [some (.ref b), some (.ref (wA w (x))), some (.ref (wA w (m))), some (.int (nI (i3 + 5)))]) (st' := []) (h' := H30) (g' := G31) rfl rfl rfl rfl ?_
            exact ih18 (i3 + 5) (H30) (G31) (by omega) hJ2_ (by omega)
          · skip
            exact absurd heq_ q33
        · refine X_swIn (tgt := 309) C (dtL_0 (32, .tableswitch 1044 0 33 #[152, 185, 208, 241, 264, 277, 290, 323, 346, 369, 392, 405, 438, 471, 504, 527, 560, 593, 646, 669, 692, 735, 758, 771, 784, 817, 850, 883, 916, 939, 962, 985, 1008, 1031], 152) (mg 21 rfl)) (5) (by rw [q2]; decide) (by decide) (by decide) rfl (by decide) ?_
          refine X_aload_n C 1 (dtL_2 (309, .aload_n 1, 1) (mg 17 rfl)) rfl rfl ?_
          refine X_cV (As := []) (st := []) C (post := _) (x) (by omega) hC.2.1 rfl (ct_X7_read hw hC hs hz hp18 gp18 hJ.1) kL_36 (by decide) (by decide) rfl rfl (Nat.le_of_ble_eq_true rfl) (dtL_2 (310, .invokevirtual 36, 3) (mg 18 rfl)) rfl (fun v36 H34 G35 hv36 => ?_)
          obtain ⟨⟨y1_, rfl⟩, hw1_, hw2_⟩ := hv36
          have hk1_ := cKp_read hw1_ hw2_
          show X k w _ 313 [some (.ref b), some (.ref (wA w (x))), some (.ref (wA w (m))), some (.int (nI (i3)))] [.int (y1_)] H34 G35
          have hMk := J_1 hxm hJ hk1_
          obtain ⟨⟨⟨nu, hnu, eu⟩, ⟨c0, hc0, hat⟩, -⟩, ⟨⟨ms, hms, ese⟩, ⟨mm, hmm, ema⟩⟩, -, ⟨mt, hmt, etx⟩⟩ := id hMk
          refine X_pop C (dtL_2 (313, .pop, 1) (mg 19 rfl)) rfl ?_
          refine X_aload_n C 2 (dtL_2 (314, .aload_n 2, 1) (mg 20 rfl)) rfl rfl ?_
          refine X_cV (As := []) (st := []) C (post := _) (m) (by omega) hM.2.1 rfl (ct_X8_read hw hM  (n := mt) hmt H34 G35 etx hMk) kL_39 (by decide) (by decide) rfl rfl (Nat.le_of_ble_eq_true rfl) (dtL_2 (315, .invokevirtual 39, 3) (mg 21 rfl)) rfl (fun v39 H37 G38 hv39 => ?_)
          obtain ⟨⟨y2_, rfl⟩, hw3_, hw4_⟩ := hv39
          have hk2_ := mKp_read hw3_ hw4_
          have hJ2_ := J_kk hxm hJ hk1_ hk2_
          show X k w _ 318 [some (.ref b), some (.ref (wA w (x))), some (.ref (wA w (m))), some (.int (nI (i3)))] [.int (y2_)] H37 G38
          refine X_pop C (dtL_2 (318, .pop, 1) (mg 22 rfl)) rfl ?_
          refine X_goto (tgt := 1076) C (dtL_2 (319, .goto 757, 3) (mg 23 rfl)) (by decide) ?_
          refine X_iinc (v := nI (i3 + 5)) (ls' := [some (.ref b), some (.ref (wA w (x))), some (.ref (wA w (m))), some (.int (nI (i3 + 5)))]) C (dtL_14 (1076, .iinc 3 5, 3) (mg 10 rfl)) rfl (nI_add (i3) 5) rfl ?_
          refine X_goto (tgt := 18) C (dtL_14 (1079, .goto (-1061), 3) (mg 11 rfl)) (by decide) ?_
          refine X_eq (ls' := [some (.ref b), some (.ref (wA w (x))), some (.ref (wA w (m))), some (.int (nI (i3 + 5)))]) (st' := []) (h' := H37) (g' := G38) rfl rfl rfl rfl ?_
          exact ih18 (i3 + 5) (H37) (G38) (by omega) hJ2_ (by omega)
        · refine X_swIn (tgt := 322) C (dtL_0 (32, .tableswitch 1044 0 33 #[152, 185, 208, 241, 264, 277, 290, 323, 346, 369, 392, 405, 438, 471, 504, 527, 560, 593, 646, 669, 692, 735, 758, 771, 784, 817, 850, 883, 916, 939, 962, 985, 1008, 1031], 152) (mg 21 rfl)) (6) (by rw [q2]; decide) (by decide) (by decide) rfl (by decide) ?_
          refine X_aload_n C 1 (dtL_2 (322, .aload_n 1, 1) (mg 24 rfl)) rfl rfl ?_
          refine X_aload_n C 0 (dtL_2 (323, .aload_n 0, 1) (mg 25 rfl)) rfl rfl ?_
          refine X_iload_n C 3 (dtL_2 (324, .iload_n 3, 1) (mg 26 rfl)) rfl rfl ?_
          refine X_iconst (v := nI (1)) C (dtL_2 (325, .iconst 1, 1) (mg 27 rfl)) (by decide) ?_
          refine X_iadd C (dtL_2 (326, .iadd, 1) (mg 28 rfl)) ?_
          refine X_ti (y := nI (i3 + 1)) (nI_add (i3) (1)) ?_
          refine X_sld (v := xs (i3 + 1)) C hSc (vp_in_nI (by omega) (by omega)) (dtL_2 (327, .iaload, 1) (mg 29 rfl)) (by rw [nI_clamp (by omega)]) ?_
          refine X_aload_n C 0 (dtL_2 (328, .aload_n 0, 1) (mg 30 rfl)) rfl rfl ?_
          refine X_iload_n C 3 (dtL_2 (329, .iload_n 3, 1) (mg 31 rfl)) rfl rfl ?_
          refine X_iconst (v := nI (2)) C (dtL_2 (330, .iconst 2, 1) (mg 32 rfl)) (by decide) ?_
          refine X_iadd C (dtL_2 (331, .iadd, 1) (mg 33 rfl)) ?_
          refine X_ti (y := nI (i3 + 2)) (nI_add (i3) (2)) ?_
          refine X_sld (v := xs (i3 + 2)) C hSc (vp_in_nI (by omega) (by omega)) (dtL_2 (332, .iaload, 1) (mg 34 rfl)) (by rw [nI_clamp (by omega)]) ?_
          refine X_cV (As := [.int (xs (i3 + 1)), .int (xs (i3 + 2))]) (st := []) C (post := _) (x) (by omega) hC.2.1 rfl (ct_X7_says hw hC (xs (i3 + 1)) (xs (i3 + 2)) hp18 gp18 hJ.1) kL_40 (by decide) (by decide) rfl rfl (Nat.le_of_ble_eq_true rfl) (dtL_2 (333, .invokevirtual 40, 3) (mg 35 rfl)) rfl (fun v42 H40 G41 hv42 => ?_)
          obtain ⟨⟨y1_, rfl⟩, hw1_⟩ := hv42
          have hk1_ := cKp_w hJ.1 hw1_
          show X k w _ 336 [some (.ref b), some (.ref (wA w (x))), some (.ref (wA w (m))), some (.int (nI (i3)))] [.int (y1_)] H40 G41
          have hMk := J_1 hxm hJ hk1_
          obtain ⟨⟨⟨nu, hnu, eu⟩, ⟨c0, hc0, hat⟩, -⟩, ⟨⟨ms, hms, ese⟩, ⟨mm, hmm, ema⟩⟩, -, ⟨mt, hmt, etx⟩⟩ := id hMk
          refine X_pop C (dtL_2 (336, .pop, 1) (mg 36 rfl)) rfl ?_
          refine X_aload_n C 2 (dtL_2 (337, .aload_n 2, 1) (mg 37 rfl)) rfl rfl ?_
          refine X_aload_n C 0 (dtL_2 (338, .aload_n 0, 1) (mg 38 rfl)) rfl rfl ?_
          refine X_iload_n C 3 (dtL_2 (339, .iload_n 3, 1) (mg 39 rfl)) rfl rfl ?_
          refine X_iconst (v := nI (1)) C (dtL_2 (340, .iconst 1, 1) (mg 40 rfl)) (by decide) ?_
          refine X_iadd C (dtL_2 (341, .iadd, 1) (mg 41 rfl)) ?_
          refine X_ti (y := nI (i3 + 1)) (nI_add (i3) (1)) ?_
          refine X_sld (v := xs (i3 + 1)) C hSc (vp_in_nI (by omega) (by omega)) (dtL_2 (342, .iaload, 1) (mg 42 rfl)) (by rw [nI_clamp (by omega)]) ?_
          refine X_aload_n C 0 (dtL_2 (343, .aload_n 0, 1) (mg 43 rfl)) rfl rfl ?_
          refine X_iload_n C 3 (dtL_2 (344, .iload_n 3, 1) (mg 44 rfl)) rfl rfl ?_
          refine X_iconst (v := nI (2)) C (dtL_2 (345, .iconst 2, 1) (mg 45 rfl)) (by decide) ?_
          refine X_iadd C (dtL_2 (346, .iadd, 1) (mg 46 rfl)) ?_
          refine X_ti (y := nI (i3 + 2)) (nI_add (i3) (2)) ?_
          refine X_sld (v := xs (i3 + 2)) C hSc (vp_in_nI (by omega) (by omega)) (dtL_2 (347, .iaload, 1) (mg 47 rfl)) (by rw [nI_clamp (by omega)]) ?_
          refine X_cV (As := [.int (xs (i3 + 1)), .int (xs (i3 + 2))]) (st := []) C (post := _) (m) (by omega) hM.2.1 rfl (ct_X8_says hw hM (xs (i3 + 1)) (xs (i3 + 2)) (n := nu) hnu H40 G41 eu) kL_43 (by decide) (by decide) rfl rfl (Nat.le_of_ble_eq_true rfl) (dtL_2 (348, .invokevirtual 43, 3) (mg 48 rfl)) rfl (fun v45 H43 G44 hv45 => ?_)
          obtain ⟨⟨y2_, rfl⟩, hk2_⟩ := mKp_says hMk hnu hv45
          have hJ2_ := J_kk hxm hJ hk1_ hk2_
          show X k w _ 351 [some (.ref b), some (.ref (wA w (x))), some (.ref (wA w (m))), some (.int (nI (i3)))] [.int (y2_)] H43 G44
          refine X_pop C (dtL_2 (351, .pop, 1) (mg 49 rfl)) rfl ?_
          refine X_goto (tgt := 1076) C (dtL_3 (352, .goto 724, 3) (mg 0 rfl)) (by decide) ?_
          refine X_iinc (v := nI (i3 + 5)) (ls' := [some (.ref b), some (.ref (wA w (x))), some (.ref (wA w (m))), some (.int (nI (i3 + 5)))]) C (dtL_14 (1076, .iinc 3 5, 3) (mg 10 rfl)) rfl (nI_add (i3) 5) rfl ?_
          refine X_goto (tgt := 18) C (dtL_14 (1079, .goto (-1061), 3) (mg 11 rfl)) (by decide) ?_
          refine X_eq (ls' := [some (.ref b), some (.ref (wA w (x))), some (.ref (wA w (m))), some (.int (nI (i3 + 5)))]) (st' := []) (h' := H43) (g' := G44) rfl rfl rfl rfl ?_
          exact ih18 (i3 + 5) (H43) (G44) (by omega) hJ2_ (by omega)
        · refine X_swIn (tgt := 355) C (dtL_0 (32, .tableswitch 1044 0 33 #[152, 185, 208, 241, 264, 277, 290, 323, 346, 369, 392, 405, 438, 471, 504, 527, 560, 593, 646, 669, 692, 735, 758, 771, 784, 817, 850, 883, 916, 939, 962, 985, 1008, 1031], 152) (mg 21 rfl)) (7) (by rw [q2]; decide) (by decide) (by decide) rfl (by decide) ?_
          refine X_aload_n C 1 (dtL_3 (355, .aload_n 1, 1) (mg 1 rfl)) rfl rfl ?_
          refine X_aload_n C 0 (dtL_3 (356, .aload_n 0, 1) (mg 2 rfl)) rfl rfl ?_
          refine X_iload_n C 3 (dtL_3 (357, .iload_n 3, 1) (mg 3 rfl)) rfl rfl ?_
          refine X_iconst (v := nI (1)) C (dtL_3 (358, .iconst 1, 1) (mg 4 rfl)) (by decide) ?_
          refine X_iadd C (dtL_3 (359, .iadd, 1) (mg 5 rfl)) ?_
          refine X_ti (y := nI (i3 + 1)) (nI_add (i3) (1)) ?_
          refine X_sld (v := xs (i3 + 1)) C hSc (vp_in_nI (by omega) (by omega)) (dtL_3 (360, .iaload, 1) (mg 6 rfl)) (by rw [nI_clamp (by omega)]) ?_
          refine X_cV (As := [.int (xs (i3 + 1))]) (st := []) C (post := _) (x) (by omega) hC.2.1 rfl (ct_X7_drags hw hC (xs (i3 + 1)) hp18 gp18 hJ.1) kL_44 (by decide) (by decide) rfl rfl (Nat.le_of_ble_eq_true rfl) (dtL_3 (361, .invokevirtual 44, 3) (mg 7 rfl)) rfl (fun v48 H46 G47 hv48 => ?_)
          obtain ⟨⟨y1_, rfl⟩, hw1_⟩ := hv48
          have hk1_ := cKp_w hJ.1 hw1_
          show X k w _ 364 [some (.ref b), some (.ref (wA w (x))), some (.ref (wA w (m))), some (.int (nI (i3)))] [.int (y1_)] H46 G47
          have hMk := J_1 hxm hJ hk1_
          obtain ⟨⟨⟨nu, hnu, eu⟩, ⟨c0, hc0, hat⟩, -⟩, ⟨⟨ms, hms, ese⟩, ⟨mm, hmm, ema⟩⟩, -, ⟨mt, hmt, etx⟩⟩ := id hMk
          refine X_pop C (dtL_3 (364, .pop, 1) (mg 8 rfl)) rfl ?_
          refine X_aload_n C 2 (dtL_3 (365, .aload_n 2, 1) (mg 9 rfl)) rfl rfl ?_
          refine X_aload_n C 0 (dtL_3 (366, .aload_n 0, 1) (mg 10 rfl)) rfl rfl ?_
          refine X_iload_n C 3 (dtL_3 (367, .iload_n 3, 1) (mg 11 rfl)) rfl rfl ?_
          refine X_iconst (v := nI (1)) C (dtL_3 (368, .iconst 1, 1) (mg 12 rfl)) (by decide) ?_
          refine X_iadd C (dtL_3 (369, .iadd, 1) (mg 13 rfl)) ?_
          refine X_ti (y := nI (i3 + 1)) (nI_add (i3) (1)) ?_
          refine X_sld (v := xs (i3 + 1)) C hSc (vp_in_nI (by omega) (by omega)) (dtL_3 (370, .iaload, 1) (mg 14 rfl)) (by rw [nI_clamp (by omega)]) ?_
          refine X_cV (As := [.int (xs (i3 + 1))]) (st := []) C (post := _) (m) (by omega) hM.2.1 rfl (ct_X8_drags hw hM (xs (i3 + 1)) (n := nu) hnu (p := c0) hc0 H46 G47 eu hat) kL_47 (by decide) (by decide) rfl rfl (Nat.le_of_ble_eq_true rfl) (dtL_3 (371, .invokevirtual 47, 3) (mg 15 rfl)) rfl (fun v51 H49 G50 hv51 => ?_)
          obtain ⟨⟨y2_, rfl⟩, hk2_⟩ := mKp_drags hMk hnu hv51
          have hJ2_ := J_kk hxm hJ hk1_ hk2_
          show X k w _ 374 [some (.ref b), some (.ref (wA w (x))), some (.ref (wA w (m))), some (.int (nI (i3)))] [.int (y2_)] H49 G50
          refine X_pop C (dtL_3 (374, .pop, 1) (mg 16 rfl)) rfl ?_
          refine X_goto (tgt := 1076) C (dtL_3 (375, .goto 701, 3) (mg 17 rfl)) (by decide) ?_
          refine X_iinc (v := nI (i3 + 5)) (ls' := [some (.ref b), some (.ref (wA w (x))), some (.ref (wA w (m))), some (.int (nI (i3 + 5)))]) C (dtL_14 (1076, .iinc 3 5, 3) (mg 10 rfl)) rfl (nI_add (i3) 5) rfl ?_
          refine X_goto (tgt := 18) C (dtL_14 (1079, .goto (-1061), 3) (mg 11 rfl)) (by decide) ?_
          refine X_eq (ls' := [some (.ref b), some (.ref (wA w (x))), some (.ref (wA w (m))), some (.int (nI (i3 + 5)))]) (st' := []) (h' := H49) (g' := G50) rfl rfl rfl rfl ?_
          exact ih18 (i3 + 5) (H49) (G50) (by omega) hJ2_ (by omega)
        · refine X_swIn (tgt := 378) C (dtL_0 (32, .tableswitch 1044 0 33 #[152, 185, 208, 241, 264, 277, 290, 323, 346, 369, 392, 405, 438, 471, 504, 527, 560, 593, 646, 669, 692, 735, 758, 771, 784, 817, 850, 883, 916, 939, 962, 985, 1008, 1031], 152) (mg 21 rfl)) (8) (by rw [q2]; decide) (by decide) (by decide) rfl (by decide) ?_
          refine X_aload_n C 1 (dtL_3 (378, .aload_n 1, 1) (mg 18 rfl)) rfl rfl ?_
          refine X_aload_n C 0 (dtL_3 (379, .aload_n 0, 1) (mg 19 rfl)) rfl rfl ?_
          refine X_iload_n C 3 (dtL_3 (380, .iload_n 3, 1) (mg 20 rfl)) rfl rfl ?_
          refine X_iconst (v := nI (1)) C (dtL_3 (381, .iconst 1, 1) (mg 21 rfl)) (by decide) ?_
          refine X_iadd C (dtL_3 (382, .iadd, 1) (mg 22 rfl)) ?_
          refine X_ti (y := nI (i3 + 1)) (nI_add (i3) (1)) ?_
          refine X_sld (v := xs (i3 + 1)) C hSc (vp_in_nI (by omega) (by omega)) (dtL_3 (383, .iaload, 1) (mg 23 rfl)) (by rw [nI_clamp (by omega)]) ?_
          refine X_cV (As := [.int (xs (i3 + 1))]) (st := []) C (post := _) (x) (by omega) hC.2.1 rfl (ct_X7_reaps hw hC (xs (i3 + 1)) hp18 gp18 hJ.1) kL_48 (by decide) (by decide) rfl rfl (Nat.le_of_ble_eq_true rfl) (dtL_3 (384, .invokevirtual 48, 3) (mg 24 rfl)) rfl (fun v54 H52 G53 hv54 => ?_)
          obtain ⟨⟨y1_, rfl⟩, hw1_⟩ := hv54
          have hk1_ := cKp_w hJ.1 hw1_
          show X k w _ 387 [some (.ref b), some (.ref (wA w (x))), some (.ref (wA w (m))), some (.int (nI (i3)))] [.int (y1_)] H52 G53
          have hMk := J_1 hxm hJ hk1_
          obtain ⟨⟨⟨nu, hnu, eu⟩, ⟨c0, hc0, hat⟩, -⟩, ⟨⟨ms, hms, ese⟩, ⟨mm, hmm, ema⟩⟩, -, ⟨mt, hmt, etx⟩⟩ := id hMk
          refine X_pop C (dtL_3 (387, .pop, 1) (mg 25 rfl)) rfl ?_
          refine X_aload_n C 2 (dtL_3 (388, .aload_n 2, 1) (mg 26 rfl)) rfl rfl ?_
          refine X_aload_n C 0 (dtL_3 (389, .aload_n 0, 1) (mg 27 rfl)) rfl rfl ?_
          refine X_iload_n C 3 (dtL_3 (390, .iload_n 3, 1) (mg 28 rfl)) rfl rfl ?_
          refine X_iconst (v := nI (1)) C (dtL_3 (391, .iconst 1, 1) (mg 29 rfl)) (by decide) ?_
          refine X_iadd C (dtL_3 (392, .iadd, 1) (mg 30 rfl)) ?_
          refine X_ti (y := nI (i3 + 1)) (nI_add (i3) (1)) ?_
          refine X_sld (v := xs (i3 + 1)) C hSc (vp_in_nI (by omega) (by omega)) (dtL_3 (393, .iaload, 1) (mg 31 rfl)) (by rw [nI_clamp (by omega)]) ?_
          refine X_cV (As := [.int (xs (i3 + 1))]) (st := []) C (post := _) (m) (by omega) hM.2.1 rfl (ct_X8_reaps hw hM (xs (i3 + 1)) (n := nu) hnu H52 G53 eu) kL_51 (by decide) (by decide) rfl rfl (Nat.le_of_ble_eq_true rfl) (dtL_3 (394, .invokevirtual 51, 3) (mg 32 rfl)) rfl (fun v57 H55 G56 hv57 => ?_)
          obtain ⟨⟨y2_, rfl⟩, hk2_⟩ := mKp_reaps hMk hnu hv57
          have hJ2_ := J_kk hxm hJ hk1_ hk2_
          show X k w _ 397 [some (.ref b), some (.ref (wA w (x))), some (.ref (wA w (m))), some (.int (nI (i3)))] [.int (y2_)] H55 G56
          refine X_pop C (dtL_3 (397, .pop, 1) (mg 33 rfl)) rfl ?_
          refine X_goto (tgt := 1076) C (dtL_3 (398, .goto 678, 3) (mg 34 rfl)) (by decide) ?_
          refine X_iinc (v := nI (i3 + 5)) (ls' := [some (.ref b), some (.ref (wA w (x))), some (.ref (wA w (m))), some (.int (nI (i3 + 5)))]) C (dtL_14 (1076, .iinc 3 5, 3) (mg 10 rfl)) rfl (nI_add (i3) 5) rfl ?_
          refine X_goto (tgt := 18) C (dtL_14 (1079, .goto (-1061), 3) (mg 11 rfl)) (by decide) ?_
          refine X_eq (ls' := [some (.ref b), some (.ref (wA w (x))), some (.ref (wA w (m))), some (.int (nI (i3 + 5)))]) (st' := []) (h' := H55) (g' := G56) rfl rfl rfl rfl ?_
          exact ih18 (i3 + 5) (H55) (G56) (by omega) hJ2_ (by omega)
        · refine X_swIn (tgt := 401) C (dtL_0 (32, .tableswitch 1044 0 33 #[152, 185, 208, 241, 264, 277, 290, 323, 346, 369, 392, 405, 438, 471, 504, 527, 560, 593, 646, 669, 692, 735, 758, 771, 784, 817, 850, 883, 916, 939, 962, 985, 1008, 1031], 152) (mg 21 rfl)) (9) (by rw [q2]; decide) (by decide) (by decide) rfl (by decide) ?_
          refine X_aload_n C 1 (dtL_3 (401, .aload_n 1, 1) (mg 35 rfl)) rfl rfl ?_
          refine X_aload_n C 0 (dtL_3 (402, .aload_n 0, 1) (mg 36 rfl)) rfl rfl ?_
          refine X_iload_n C 3 (dtL_3 (403, .iload_n 3, 1) (mg 37 rfl)) rfl rfl ?_
          refine X_iconst (v := nI (1)) C (dtL_3 (404, .iconst 1, 1) (mg 38 rfl)) (by decide) ?_
          refine X_iadd C (dtL_3 (405, .iadd, 1) (mg 39 rfl)) ?_
          refine X_ti (y := nI (i3 + 1)) (nI_add (i3) (1)) ?_
          refine X_sld (v := xs (i3 + 1)) C hSc (vp_in_nI (by omega) (by omega)) (dtL_3 (406, .iaload, 1) (mg 40 rfl)) (by rw [nI_clamp (by omega)]) ?_
          refine X_cV (As := [.int (xs (i3 + 1))]) (st := []) C (post := _) (x) (by omega) hC.2.1 rfl (ct_X7_weeks hw hC (xs (i3 + 1)) hp18 gp18 hJ.1) kL_52 (by decide) (by decide) rfl rfl (Nat.le_of_ble_eq_true rfl) (dtL_3 (407, .invokevirtual 52, 3) (mg 41 rfl)) rfl (fun v60 H58 G59 hv60 => ?_)
          obtain ⟨⟨y1_, rfl⟩, hw1_⟩ := hv60
          have hk1_ := cKp_w hJ.1 hw1_
          show X k w _ 410 [some (.ref b), some (.ref (wA w (x))), some (.ref (wA w (m))), some (.int (nI (i3)))] [.int (y1_)] H58 G59
          have hMk := J_1 hxm hJ hk1_
          obtain ⟨⟨⟨nu, hnu, eu⟩, ⟨c0, hc0, hat⟩, -⟩, ⟨⟨ms, hms, ese⟩, ⟨mm, hmm, ema⟩⟩, -, ⟨mt, hmt, etx⟩⟩ := id hMk
          refine X_pop C (dtL_3 (410, .pop, 1) (mg 42 rfl)) rfl ?_
          refine X_aload_n C 2 (dtL_3 (411, .aload_n 2, 1) (mg 43 rfl)) rfl rfl ?_
          refine X_aload_n C 0 (dtL_3 (412, .aload_n 0, 1) (mg 44 rfl)) rfl rfl ?_
          refine X_iload_n C 3 (dtL_3 (413, .iload_n 3, 1) (mg 45 rfl)) rfl rfl ?_
          refine X_iconst (v := nI (1)) C (dtL_3 (414, .iconst 1, 1) (mg 46 rfl)) (by decide) ?_
          refine X_iadd C (dtL_3 (415, .iadd, 1) (mg 47 rfl)) ?_
          refine X_ti (y := nI (i3 + 1)) (nI_add (i3) (1)) ?_
          refine X_sld (v := xs (i3 + 1)) C hSc (vp_in_nI (by omega) (by omega)) (dtL_3 (416, .iaload, 1) (mg 48 rfl)) (by rw [nI_clamp (by omega)]) ?_
          refine X_cV (As := [.int (xs (i3 + 1))]) (st := []) C (post := _) (m) (by omega) hM.2.1 rfl (ct_X8_weeks hw hM (xs (i3 + 1)) (n := nu) hnu H58 G59 eu) kL_55 (by decide) (by decide) rfl rfl (Nat.le_of_ble_eq_true rfl) (dtL_3 (417, .invokevirtual 55, 3) (mg 49 rfl)) rfl (fun v63 H61 G62 hv63 => ?_)
          obtain ⟨⟨y2_, rfl⟩, hk2_⟩ := mKp_weeks hMk hnu hv63
          have hJ2_ := J_kk hxm hJ hk1_ hk2_
          show X k w _ 420 [some (.ref b), some (.ref (wA w (x))), some (.ref (wA w (m))), some (.int (nI (i3)))] [.int (y2_)] H61 G62
          refine X_pop C (dtL_4 (420, .pop, 1) (mg 0 rfl)) rfl ?_
          refine X_goto (tgt := 1076) C (dtL_4 (421, .goto 655, 3) (mg 1 rfl)) (by decide) ?_
          refine X_iinc (v := nI (i3 + 5)) (ls' := [some (.ref b), some (.ref (wA w (x))), some (.ref (wA w (m))), some (.int (nI (i3 + 5)))]) C (dtL_14 (1076, .iinc 3 5, 3) (mg 10 rfl)) rfl (nI_add (i3) 5) rfl ?_
          refine X_goto (tgt := 18) C (dtL_14 (1079, .goto (-1061), 3) (mg 11 rfl)) (by decide) ?_
          refine X_eq (ls' := [some (.ref b), some (.ref (wA w (x))), some (.ref (wA w (m))), some (.int (nI (i3 + 5)))]) (st' := []) (h' := H61) (g' := G62) rfl rfl rfl rfl ?_
          exact ih18 (i3 + 5) (H61) (G62) (by omega) hJ2_ (by omega)
        · refine X_swIn (tgt := 424) C (dtL_0 (32, .tableswitch 1044 0 33 #[152, 185, 208, 241, 264, 277, 290, 323, 346, 369, 392, 405, 438, 471, 504, 527, 560, 593, 646, 669, 692, 735, 758, 771, 784, 817, 850, 883, 916, 939, 962, 985, 1008, 1031], 152) (mg 21 rfl)) (10) (by rw [q2]; decide) (by decide) (by decide) rfl (by decide) ?_
          refine X_aload_n C 1 (dtL_4 (424, .aload_n 1, 1) (mg 2 rfl)) rfl rfl ?_
          refine X_cV (As := []) (st := []) C (post := _) (x) (by omega) hC.2.1 rfl (ct_X7_undo hw hC  hp18 gp18 hJ.1) kL_56 (by decide) (by decide) rfl rfl (Nat.le_of_ble_eq_true rfl) (dtL_4 (425, .invokevirtual 56, 3) (mg 3 rfl)) rfl (fun v66 H64 G65 hv66 => ?_)
          obtain ⟨⟨y1_, rfl⟩, hw1_⟩ := hv66
          have hk1_ := cKp_w hJ.1 hw1_
          show X k w _ 428 [some (.ref b), some (.ref (wA w (x))), some (.ref (wA w (m))), some (.int (nI (i3)))] [.int (y1_)] H64 G65
          have hMk := J_1 hxm hJ hk1_
          obtain ⟨⟨⟨nu, hnu, eu⟩, ⟨c0, hc0, hat⟩, -⟩, ⟨⟨ms, hms, ese⟩, ⟨mm, hmm, ema⟩⟩, -, ⟨mt, hmt, etx⟩⟩ := id hMk
          refine X_pop C (dtL_4 (428, .pop, 1) (mg 4 rfl)) rfl ?_
          refine X_aload_n C 2 (dtL_4 (429, .aload_n 2, 1) (mg 5 rfl)) rfl rfl ?_
          refine X_cV (As := []) (st := []) C (post := _) (m) (by omega) hM.2.1 rfl (ct_X8_undo hw hM  (n := nu) hnu H64 G65 eu) kL_59 (by decide) (by decide) rfl rfl (Nat.le_of_ble_eq_true rfl) (dtL_4 (430, .invokevirtual 59, 3) (mg 6 rfl)) rfl (fun v69 H67 G68 hv69 => ?_)
          obtain ⟨⟨y2_, rfl⟩, hk2_⟩ := mKp_undo hMk hnu hv69
          have hJ2_ := J_kk hxm hJ hk1_ hk2_
          show X k w _ 433 [some (.ref b), some (.ref (wA w (x))), some (.ref (wA w (m))), some (.int (nI (i3)))] [.int (y2_)] H67 G68
          refine X_pop C (dtL_4 (433, .pop, 1) (mg 7 rfl)) rfl ?_
          refine X_goto (tgt := 1076) C (dtL_4 (434, .goto 642, 3) (mg 8 rfl)) (by decide) ?_
          refine X_iinc (v := nI (i3 + 5)) (ls' := [some (.ref b), some (.ref (wA w (x))), some (.ref (wA w (m))), some (.int (nI (i3 + 5)))]) C (dtL_14 (1076, .iinc 3 5, 3) (mg 10 rfl)) rfl (nI_add (i3) 5) rfl ?_
          refine X_goto (tgt := 18) C (dtL_14 (1079, .goto (-1061), 3) (mg 11 rfl)) (by decide) ?_
          refine X_eq (ls' := [some (.ref b), some (.ref (wA w (x))), some (.ref (wA w (m))), some (.int (nI (i3 + 5)))]) (st' := []) (h' := H67) (g' := G68) rfl rfl rfl rfl ?_
          exact ih18 (i3 + 5) (H67) (G68) (by omega) hJ2_ (by omega)
        · refine X_swIn (tgt := 437) C (dtL_0 (32, .tableswitch 1044 0 33 #[152, 185, 208, 241, 264, 277, 290, 323, 346, 369, 392, 405, 438, 471, 504, 527, 560, 593, 646, 669, 692, 735, 758, 771, 784, 817, 850, 883, 916, 939, 962, 985, 1008, 1031], 152) (mg 21 rfl)) (11) (by rw [q2]; decide) (by decide) (by decide) rfl (by decide) ?_
          refine X_aload_n C 1 (dtL_4 (437, .aload_n 1, 1) (mg 9 rfl)) rfl rfl ?_
          refine X_aload_n C 0 (dtL_4 (438, .aload_n 0, 1) (mg 10 rfl)) rfl rfl ?_
          refine X_iload_n C 3 (dtL_4 (439, .iload_n 3, 1) (mg 11 rfl)) rfl rfl ?_
          refine X_iconst (v := nI (1)) C (dtL_4 (440, .iconst 1, 1) (mg 12 rfl)) (by decide) ?_
          refine X_iadd C (dtL_4 (441, .iadd, 1) (mg 13 rfl)) ?_
          refine X_ti (y := nI (i3 + 1)) (nI_add (i3) (1)) ?_
          refine X_sld (v := xs (i3 + 1)) C hSc (vp_in_nI (by omega) (by omega)) (dtL_4 (442, .iaload, 1) (mg 14 rfl)) (by rw [nI_clamp (by omega)]) ?_
          refine X_aload_n C 0 (dtL_4 (443, .aload_n 0, 1) (mg 15 rfl)) rfl rfl ?_
          refine X_iload_n C 3 (dtL_4 (444, .iload_n 3, 1) (mg 16 rfl)) rfl rfl ?_
          refine X_iconst (v := nI (2)) C (dtL_4 (445, .iconst 2, 1) (mg 17 rfl)) (by decide) ?_
          refine X_iadd C (dtL_4 (446, .iadd, 1) (mg 18 rfl)) ?_
          refine X_ti (y := nI (i3 + 2)) (nI_add (i3) (2)) ?_
          refine X_sld (v := xs (i3 + 2)) C hSc (vp_in_nI (by omega) (by omega)) (dtL_4 (447, .iaload, 1) (mg 19 rfl)) (by rw [nI_clamp (by omega)]) ?_
          refine X_cV (As := [.int (xs (i3 + 1)), .int (xs (i3 + 2))]) (st := []) C (post := _) (x) (by omega) hC.2.1 rfl (ct_X7_of hw hC (xs (i3 + 1)) (xs (i3 + 2)) hp18 gp18 hJ.1) kL_60 (by decide) (by decide) rfl rfl (Nat.le_of_ble_eq_true rfl) (dtL_4 (448, .invokevirtual 60, 3) (mg 20 rfl)) rfl (fun v72 H70 G71 hv72 => ?_)
          obtain ⟨⟨y1_, rfl⟩, hw1_⟩ := hv72
          have hk1_ := cKp_w hJ.1 hw1_
          show X k w _ 451 [some (.ref b), some (.ref (wA w (x))), some (.ref (wA w (m))), some (.int (nI (i3)))] [.int (y1_)] H70 G71
          have hMk := J_1 hxm hJ hk1_
          obtain ⟨⟨⟨nu, hnu, eu⟩, ⟨c0, hc0, hat⟩, -⟩, ⟨⟨ms, hms, ese⟩, ⟨mm, hmm, ema⟩⟩, -, ⟨mt, hmt, etx⟩⟩ := id hMk
          refine X_pop C (dtL_4 (451, .pop, 1) (mg 21 rfl)) rfl ?_
          refine X_aload_n C 2 (dtL_4 (452, .aload_n 2, 1) (mg 22 rfl)) rfl rfl ?_
          refine X_aload_n C 0 (dtL_4 (453, .aload_n 0, 1) (mg 23 rfl)) rfl rfl ?_
          refine X_iload_n C 3 (dtL_4 (454, .iload_n 3, 1) (mg 24 rfl)) rfl rfl ?_
          refine X_iconst (v := nI (1)) C (dtL_4 (455, .iconst 1, 1) (mg 25 rfl)) (by decide) ?_
          refine X_iadd C (dtL_4 (456, .iadd, 1) (mg 26 rfl)) ?_
          refine X_ti (y := nI (i3 + 1)) (nI_add (i3) (1)) ?_
          refine X_sld (v := xs (i3 + 1)) C hSc (vp_in_nI (by omega) (by omega)) (dtL_4 (457, .iaload, 1) (mg 27 rfl)) (by rw [nI_clamp (by omega)]) ?_
          refine X_aload_n C 0 (dtL_4 (458, .aload_n 0, 1) (mg 28 rfl)) rfl rfl ?_
          refine X_iload_n C 3 (dtL_4 (459, .iload_n 3, 1) (mg 29 rfl)) rfl rfl ?_
          refine X_iconst (v := nI (2)) C (dtL_4 (460, .iconst 2, 1) (mg 30 rfl)) (by decide) ?_
          refine X_iadd C (dtL_4 (461, .iadd, 1) (mg 31 rfl)) ?_
          refine X_ti (y := nI (i3 + 2)) (nI_add (i3) (2)) ?_
          refine X_sld (v := xs (i3 + 2)) C hSc (vp_in_nI (by omega) (by omega)) (dtL_4 (462, .iaload, 1) (mg 32 rfl)) (by rw [nI_clamp (by omega)]) ?_
          refine X_cV (As := [.int (xs (i3 + 1)), .int (xs (i3 + 2))]) (st := []) C (post := _) (m) (by omega) hM.2.1 rfl (ct_X8_of hw hM (xs (i3 + 1)) (xs (i3 + 2)) H70 G71) kL_63 (by decide) (by decide) rfl rfl (Nat.le_of_ble_eq_true rfl) (dtL_4 (463, .invokevirtual 63, 3) (mg 33 rfl)) rfl (fun v75 H73 G74 hv75 => ?_)
          obtain ⟨⟨y2_, rfl⟩, hk2_⟩ := mKp_look hMk hv75
          have hJ2_ := J_kk hxm hJ hk1_ hk2_
          show X k w _ 466 [some (.ref b), some (.ref (wA w (x))), some (.ref (wA w (m))), some (.int (nI (i3)))] [.int (y2_)] H73 G74
          refine X_pop C (dtL_4 (466, .pop, 1) (mg 34 rfl)) rfl ?_
          refine X_goto (tgt := 1076) C (dtL_4 (467, .goto 609, 3) (mg 35 rfl)) (by decide) ?_
          refine X_iinc (v := nI (i3 + 5)) (ls' := [some (.ref b), some (.ref (wA w (x))), some (.ref (wA w (m))), some (.int (nI (i3 + 5)))]) C (dtL_14 (1076, .iinc 3 5, 3) (mg 10 rfl)) rfl (nI_add (i3) 5) rfl ?_
          refine X_goto (tgt := 18) C (dtL_14 (1079, .goto (-1061), 3) (mg 11 rfl)) (by decide) ?_
          refine X_eq (ls' := [some (.ref b), some (.ref (wA w (x))), some (.ref (wA w (m))), some (.int (nI (i3 + 5)))]) (st' := []) (h' := H73) (g' := G74) rfl rfl rfl rfl ?_
          exact ih18 (i3 + 5) (H73) (G74) (by omega) hJ2_ (by omega)
        · refine X_swIn (tgt := 470) C (dtL_0 (32, .tableswitch 1044 0 33 #[152, 185, 208, 241, 264, 277, 290, 323, 346, 369, 392, 405, 438, 471, 504, 527, 560, 593, 646, 669, 692, 735, 758, 771, 784, 817, 850, 883, 916, 939, 962, 985, 1008, 1031], 152) (mg 21 rfl)) (12) (by rw [q2]; decide) (by decide) (by decide) rfl (by decide) ?_
          refine X_aload_n C 1 (dtL_4 (470, .aload_n 1, 1) (mg 36 rfl)) rfl rfl ?_
          refine X_aload_n C 0 (dtL_4 (471, .aload_n 0, 1) (mg 37 rfl)) rfl rfl ?_
          refine X_iload_n C 3 (dtL_4 (472, .iload_n 3, 1) (mg 38 rfl)) rfl rfl ?_
          refine X_iconst (v := nI (1)) C (dtL_4 (473, .iconst 1, 1) (mg 39 rfl)) (by decide) ?_
          refine X_iadd C (dtL_4 (474, .iadd, 1) (mg 40 rfl)) ?_
          refine X_ti (y := nI (i3 + 1)) (nI_add (i3) (1)) ?_
          refine X_sld (v := xs (i3 + 1)) C hSc (vp_in_nI (by omega) (by omega)) (dtL_4 (475, .iaload, 1) (mg 41 rfl)) (by rw [nI_clamp (by omega)]) ?_
          refine X_aload_n C 0 (dtL_4 (476, .aload_n 0, 1) (mg 42 rfl)) rfl rfl ?_
          refine X_iload_n C 3 (dtL_4 (477, .iload_n 3, 1) (mg 43 rfl)) rfl rfl ?_
          refine X_iconst (v := nI (2)) C (dtL_4 (478, .iconst 2, 1) (mg 44 rfl)) (by decide) ?_
          refine X_iadd C (dtL_4 (479, .iadd, 1) (mg 45 rfl)) ?_
          refine X_ti (y := nI (i3 + 2)) (nI_add (i3) (2)) ?_
          refine X_sld (v := xs (i3 + 2)) C hSc (vp_in_nI (by omega) (by omega)) (dtL_4 (480, .iaload, 1) (mg 46 rfl)) (by rw [nI_clamp (by omega)]) ?_
          refine X_cV (As := [.int (xs (i3 + 1)), .int (xs (i3 + 2))]) (st := []) C (post := _) (x) (by omega) hC.2.1 rfl (ct_X7_high hw hC (xs (i3 + 1)) (xs (i3 + 2)) hp18 gp18 hJ.1) kL_64 (by decide) (by decide) rfl rfl (Nat.le_of_ble_eq_true rfl) (dtL_4 (481, .invokevirtual 64, 3) (mg 47 rfl)) rfl (fun v78 H76 G77 hv78 => ?_)
          obtain ⟨⟨y1_, rfl⟩, hw1_⟩ := hv78
          have hk1_ := cKp_w hJ.1 hw1_
          show X k w _ 484 [some (.ref b), some (.ref (wA w (x))), some (.ref (wA w (m))), some (.int (nI (i3)))] [.int (y1_)] H76 G77
          have hMk := J_1 hxm hJ hk1_
          obtain ⟨⟨⟨nu, hnu, eu⟩, ⟨c0, hc0, hat⟩, -⟩, ⟨⟨ms, hms, ese⟩, ⟨mm, hmm, ema⟩⟩, -, ⟨mt, hmt, etx⟩⟩ := id hMk
          refine X_pop C (dtL_4 (484, .pop, 1) (mg 48 rfl)) rfl ?_
          refine X_aload_n C 2 (dtL_4 (485, .aload_n 2, 1) (mg 49 rfl)) rfl rfl ?_
          refine X_aload_n C 0 (dtL_5 (486, .aload_n 0, 1) (mg 0 rfl)) rfl rfl ?_
          refine X_iload_n C 3 (dtL_5 (487, .iload_n 3, 1) (mg 1 rfl)) rfl rfl ?_
          refine X_iconst (v := nI (1)) C (dtL_5 (488, .iconst 1, 1) (mg 2 rfl)) (by decide) ?_
          refine X_iadd C (dtL_5 (489, .iadd, 1) (mg 3 rfl)) ?_
          refine X_ti (y := nI (i3 + 1)) (nI_add (i3) (1)) ?_
          refine X_sld (v := xs (i3 + 1)) C hSc (vp_in_nI (by omega) (by omega)) (dtL_5 (490, .iaload, 1) (mg 4 rfl)) (by rw [nI_clamp (by omega)]) ?_
          refine X_aload_n C 0 (dtL_5 (491, .aload_n 0, 1) (mg 5 rfl)) rfl rfl ?_
          refine X_iload_n C 3 (dtL_5 (492, .iload_n 3, 1) (mg 6 rfl)) rfl rfl ?_
          refine X_iconst (v := nI (2)) C (dtL_5 (493, .iconst 2, 1) (mg 7 rfl)) (by decide) ?_
          refine X_iadd C (dtL_5 (494, .iadd, 1) (mg 8 rfl)) ?_
          refine X_ti (y := nI (i3 + 2)) (nI_add (i3) (2)) ?_
          refine X_sld (v := xs (i3 + 2)) C hSc (vp_in_nI (by omega) (by omega)) (dtL_5 (495, .iaload, 1) (mg 9 rfl)) (by rw [nI_clamp (by omega)]) ?_
          refine X_cV (As := [.int (xs (i3 + 1)), .int (xs (i3 + 2))]) (st := []) C (post := _) (m) (by omega) hM.2.1 rfl (ct_X8_high hw hM (xs (i3 + 1)) (xs (i3 + 2)) H76 G77) kL_67 (by decide) (by decide) rfl rfl (Nat.le_of_ble_eq_true rfl) (dtL_5 (496, .invokevirtual 67, 3) (mg 10 rfl)) rfl (fun v81 H79 G80 hv81 => ?_)
          obtain ⟨⟨y2_, rfl⟩, hk2_⟩ := mKp_hand hMk hv81
          have hJ2_ := J_kk hxm hJ hk1_ hk2_
          show X k w _ 499 [some (.ref b), some (.ref (wA w (x))), some (.ref (wA w (m))), some (.int (nI (i3)))] [.int (y2_)] H79 G80
          refine X_pop C (dtL_5 (499, .pop, 1) (mg 11 rfl)) rfl ?_
          refine X_goto (tgt := 1076) C (dtL_5 (500, .goto 576, 3) (mg 12 rfl)) (by decide) ?_
          refine X_iinc (v := nI (i3 + 5)) (ls' := [some (.ref b), some (.ref (wA w (x))), some (.ref (wA w (m))), some (.int (nI (i3 + 5)))]) C (dtL_14 (1076, .iinc 3 5, 3) (mg 10 rfl)) rfl (nI_add (i3) 5) rfl ?_
          refine X_goto (tgt := 18) C (dtL_14 (1079, .goto (-1061), 3) (mg 11 rfl)) (by decide) ?_
          refine X_eq (ls' := [some (.ref b), some (.ref (wA w (x))), some (.ref (wA w (m))), some (.int (nI (i3 + 5)))]) (st' := []) (h' := H79) (g' := G80) rfl rfl rfl rfl ?_
          exact ih18 (i3 + 5) (H79) (G80) (by omega) hJ2_ (by omega)
        · refine X_swIn (tgt := 503) C (dtL_0 (32, .tableswitch 1044 0 33 #[152, 185, 208, 241, 264, 277, 290, 323, 346, 369, 392, 405, 438, 471, 504, 527, 560, 593, 646, 669, 692, 735, 758, 771, 784, 817, 850, 883, 916, 939, 962, 985, 1008, 1031], 152) (mg 21 rfl)) (13) (by rw [q2]; decide) (by decide) (by decide) rfl (by decide) ?_
          refine X_aload_n C 1 (dtL_5 (503, .aload_n 1, 1) (mg 13 rfl)) rfl rfl ?_
          refine X_aload_n C 0 (dtL_5 (504, .aload_n 0, 1) (mg 14 rfl)) rfl rfl ?_
          refine X_iload_n C 3 (dtL_5 (505, .iload_n 3, 1) (mg 15 rfl)) rfl rfl ?_
          refine X_iconst (v := nI (1)) C (dtL_5 (506, .iconst 1, 1) (mg 16 rfl)) (by decide) ?_
          refine X_iadd C (dtL_5 (507, .iadd, 1) (mg 17 rfl)) ?_
          refine X_ti (y := nI (i3 + 1)) (nI_add (i3) (1)) ?_
          refine X_sld (v := xs (i3 + 1)) C hSc (vp_in_nI (by omega) (by omega)) (dtL_5 (508, .iaload, 1) (mg 18 rfl)) (by rw [nI_clamp (by omega)]) ?_
          refine X_aload_n C 0 (dtL_5 (509, .aload_n 0, 1) (mg 19 rfl)) rfl rfl ?_
          refine X_iload_n C 3 (dtL_5 (510, .iload_n 3, 1) (mg 20 rfl)) rfl rfl ?_
          refine X_iconst (v := nI (2)) C (dtL_5 (511, .iconst 2, 1) (mg 21 rfl)) (by decide) ?_
          refine X_iadd C (dtL_5 (512, .iadd, 1) (mg 22 rfl)) ?_
          refine X_ti (y := nI (i3 + 2)) (nI_add (i3) (2)) ?_
          refine X_sld (v := xs (i3 + 2)) C hSc (vp_in_nI (by omega) (by omega)) (dtL_5 (513, .iaload, 1) (mg 23 rfl)) (by rw [nI_clamp (by omega)]) ?_
          refine X_cV (As := [.int (xs (i3 + 1)), .int (xs (i3 + 2))]) (st := []) C (post := _) (x) (by omega) hC.2.1 rfl (ct_X7_when hw hC (xs (i3 + 1)) (xs (i3 + 2)) hp18 gp18 hJ.1) kL_68 (by decide) (by decide) rfl rfl (Nat.le_of_ble_eq_true rfl) (dtL_5 (514, .invokevirtual 68, 3) (mg 24 rfl)) rfl (fun v84 H82 G83 hv84 => ?_)
          obtain ⟨⟨y1_, rfl⟩, hw1_⟩ := hv84
          have hk1_ := cKp_w hJ.1 hw1_
          show X k w _ 517 [some (.ref b), some (.ref (wA w (x))), some (.ref (wA w (m))), some (.int (nI (i3)))] [.int (y1_)] H82 G83
          have hMk := J_1 hxm hJ hk1_
          obtain ⟨⟨⟨nu, hnu, eu⟩, ⟨c0, hc0, hat⟩, -⟩, ⟨⟨ms, hms, ese⟩, ⟨mm, hmm, ema⟩⟩, -, ⟨mt, hmt, etx⟩⟩ := id hMk
          refine X_pop C (dtL_5 (517, .pop, 1) (mg 25 rfl)) rfl ?_
          refine X_aload_n C 2 (dtL_5 (518, .aload_n 2, 1) (mg 26 rfl)) rfl rfl ?_
          refine X_aload_n C 0 (dtL_5 (519, .aload_n 0, 1) (mg 27 rfl)) rfl rfl ?_
          refine X_iload_n C 3 (dtL_5 (520, .iload_n 3, 1) (mg 28 rfl)) rfl rfl ?_
          refine X_iconst (v := nI (1)) C (dtL_5 (521, .iconst 1, 1) (mg 29 rfl)) (by decide) ?_
          refine X_iadd C (dtL_5 (522, .iadd, 1) (mg 30 rfl)) ?_
          refine X_ti (y := nI (i3 + 1)) (nI_add (i3) (1)) ?_
          refine X_sld (v := xs (i3 + 1)) C hSc (vp_in_nI (by omega) (by omega)) (dtL_5 (523, .iaload, 1) (mg 31 rfl)) (by rw [nI_clamp (by omega)]) ?_
          refine X_aload_n C 0 (dtL_5 (524, .aload_n 0, 1) (mg 32 rfl)) rfl rfl ?_
          refine X_iload_n C 3 (dtL_5 (525, .iload_n 3, 1) (mg 33 rfl)) rfl rfl ?_
          refine X_iconst (v := nI (2)) C (dtL_5 (526, .iconst 2, 1) (mg 34 rfl)) (by decide) ?_
          refine X_iadd C (dtL_5 (527, .iadd, 1) (mg 35 rfl)) ?_
          refine X_ti (y := nI (i3 + 2)) (nI_add (i3) (2)) ?_
          refine X_sld (v := xs (i3 + 2)) C hSc (vp_in_nI (by omega) (by omega)) (dtL_5 (528, .iaload, 1) (mg 36 rfl)) (by rw [nI_clamp (by omega)]) ?_
          refine X_cV (As := [.int (xs (i3 + 1)), .int (xs (i3 + 2))]) (st := []) C (post := _) (m) (by omega) hM.2.1 rfl (ct_X8_when hw hM (xs (i3 + 1)) (xs (i3 + 2)) H82 G83 hMk) kL_71 (by decide) (by decide) rfl rfl (Nat.le_of_ble_eq_true rfl) (dtL_5 (529, .invokevirtual 71, 3) (mg 37 rfl)) rfl (fun v87 H85 G86 hv87 => ?_)
          obtain ⟨⟨y2_, rfl⟩, hw3_⟩ := hv87
          have hk2_ := mKp_w hMk hw3_
          have hJ2_ := J_kk hxm hJ hk1_ hk2_
          show X k w _ 532 [some (.ref b), some (.ref (wA w (x))), some (.ref (wA w (m))), some (.int (nI (i3)))] [.int (y2_)] H85 G86
          refine X_pop C (dtL_5 (532, .pop, 1) (mg 38 rfl)) rfl ?_
          refine X_goto (tgt := 1076) C (dtL_5 (533, .goto 543, 3) (mg 39 rfl)) (by decide) ?_
          refine X_iinc (v := nI (i3 + 5)) (ls' := [some (.ref b), some (.ref (wA w (x))), some (.ref (wA w (m))), some (.int (nI (i3 + 5)))]) C (dtL_14 (1076, .iinc 3 5, 3) (mg 10 rfl)) rfl (nI_add (i3) 5) rfl ?_
          refine X_goto (tgt := 18) C (dtL_14 (1079, .goto (-1061), 3) (mg 11 rfl)) (by decide) ?_
          refine X_eq (ls' := [some (.ref b), some (.ref (wA w (x))), some (.ref (wA w (m))), some (.int (nI (i3 + 5)))]) (st' := []) (h' := H85) (g' := G86) rfl rfl rfl rfl ?_
          exact ih18 (i3 + 5) (H85) (G86) (by omega) hJ2_ (by omega)
        · refine X_swIn (tgt := 536) C (dtL_0 (32, .tableswitch 1044 0 33 #[152, 185, 208, 241, 264, 277, 290, 323, 346, 369, 392, 405, 438, 471, 504, 527, 560, 593, 646, 669, 692, 735, 758, 771, 784, 817, 850, 883, 916, 939, 962, 985, 1008, 1031], 152) (mg 21 rfl)) (14) (by rw [q2]; decide) (by decide) (by decide) rfl (by decide) ?_
          refine X_aload_n C 1 (dtL_5 (536, .aload_n 1, 1) (mg 40 rfl)) rfl rfl ?_
          refine X_aload_n C 0 (dtL_5 (537, .aload_n 0, 1) (mg 41 rfl)) rfl rfl ?_
          refine X_iload_n C 3 (dtL_5 (538, .iload_n 3, 1) (mg 42 rfl)) rfl rfl ?_
          refine X_iconst (v := nI (1)) C (dtL_5 (539, .iconst 1, 1) (mg 43 rfl)) (by decide) ?_
          refine X_iadd C (dtL_5 (540, .iadd, 1) (mg 44 rfl)) ?_
          refine X_ti (y := nI (i3 + 1)) (nI_add (i3) (1)) ?_
          refine X_sld (v := xs (i3 + 1)) C hSc (vp_in_nI (by omega) (by omega)) (dtL_5 (541, .iaload, 1) (mg 45 rfl)) (by rw [nI_clamp (by omega)]) ?_
          refine X_cV (As := [.int (xs (i3 + 1))]) (st := []) C (post := _) (x) (by omega) hC.2.1 rfl (ct_X7_green hw hC (xs (i3 + 1)) hp18 gp18 hJ.1) kL_72 (by decide) (by decide) rfl rfl (Nat.le_of_ble_eq_true rfl) (dtL_5 (542, .invokevirtual 72, 3) (mg 46 rfl)) rfl (fun v90 H88 G89 hv90 => ?_)
          obtain ⟨⟨y1_, rfl⟩, hw1_⟩ := hv90
          have hk1_ := cKp_w hJ.1 hw1_
          show X k w _ 545 [some (.ref b), some (.ref (wA w (x))), some (.ref (wA w (m))), some (.int (nI (i3)))] [.int (y1_)] H88 G89
          have hMk := J_1 hxm hJ hk1_
          obtain ⟨⟨⟨nu, hnu, eu⟩, ⟨c0, hc0, hat⟩, -⟩, ⟨⟨ms, hms, ese⟩, ⟨mm, hmm, ema⟩⟩, -, ⟨mt, hmt, etx⟩⟩ := id hMk
          refine X_pop C (dtL_5 (545, .pop, 1) (mg 47 rfl)) rfl ?_
          refine X_aload_n C 2 (dtL_5 (546, .aload_n 2, 1) (mg 48 rfl)) rfl rfl ?_
          refine X_aload_n C 0 (dtL_5 (547, .aload_n 0, 1) (mg 49 rfl)) rfl rfl ?_
          refine X_iload_n C 3 (dtL_6 (548, .iload_n 3, 1) (mg 0 rfl)) rfl rfl ?_
          refine X_iconst (v := nI (1)) C (dtL_6 (549, .iconst 1, 1) (mg 1 rfl)) (by decide) ?_
          refine X_iadd C (dtL_6 (550, .iadd, 1) (mg 2 rfl)) ?_
          refine X_ti (y := nI (i3 + 1)) (nI_add (i3) (1)) ?_
          refine X_sld (v := xs (i3 + 1)) C hSc (vp_in_nI (by omega) (by omega)) (dtL_6 (551, .iaload, 1) (mg 3 rfl)) (by rw [nI_clamp (by omega)]) ?_
          refine X_cV (As := [.int (xs (i3 + 1))]) (st := []) C (post := _) (m) (by omega) hM.2.1 rfl (ct_X8_green hw hM (xs (i3 + 1)) H88 G89) kL_75 (by decide) (by decide) rfl rfl (Nat.le_of_ble_eq_true rfl) (dtL_6 (552, .invokevirtual 75, 3) (mg 4 rfl)) rfl (fun v93 H91 G92 hv93 => ?_)
          obtain ⟨⟨y2_, rfl⟩, hk2_⟩ := mKp_hand hMk hv93
          have hJ2_ := J_kk hxm hJ hk1_ hk2_
          show X k w _ 555 [some (.ref b), some (.ref (wA w (x))), some (.ref (wA w (m))), some (.int (nI (i3)))] [.int (y2_)] H91 G92
          refine X_pop C (dtL_6 (555, .pop, 1) (mg 5 rfl)) rfl ?_
          refine X_goto (tgt := 1076) C (dtL_6 (556, .goto 520, 3) (mg 6 rfl)) (by decide) ?_
          refine X_iinc (v := nI (i3 + 5)) (ls' := [some (.ref b), some (.ref (wA w (x))), some (.ref (wA w (m))), some (.int (nI (i3 + 5)))]) C (dtL_14 (1076, .iinc 3 5, 3) (mg 10 rfl)) rfl (nI_add (i3) 5) rfl ?_
          refine X_goto (tgt := 18) C (dtL_14 (1079, .goto (-1061), 3) (mg 11 rfl)) (by decide) ?_
          refine X_eq (ls' := [some (.ref b), some (.ref (wA w (x))), some (.ref (wA w (m))), some (.int (nI (i3 + 5)))]) (st' := []) (h' := H91) (g' := G92) rfl rfl rfl rfl ?_
          exact ih18 (i3 + 5) (H91) (G92) (by omega) hJ2_ (by omega)
        · refine X_swIn (tgt := 559) C (dtL_0 (32, .tableswitch 1044 0 33 #[152, 185, 208, 241, 264, 277, 290, 323, 346, 369, 392, 405, 438, 471, 504, 527, 560, 593, 646, 669, 692, 735, 758, 771, 784, 817, 850, 883, 916, 939, 962, 985, 1008, 1031], 152) (mg 21 rfl)) (15) (by rw [q2]; decide) (by decide) (by decide) rfl (by decide) ?_
          refine X_aload_n C 1 (dtL_6 (559, .aload_n 1, 1) (mg 7 rfl)) rfl rfl ?_
          refine X_aload_n C 0 (dtL_6 (560, .aload_n 0, 1) (mg 8 rfl)) rfl rfl ?_
          refine X_iload_n C 3 (dtL_6 (561, .iload_n 3, 1) (mg 9 rfl)) rfl rfl ?_
          refine X_iconst (v := nI (1)) C (dtL_6 (562, .iconst 1, 1) (mg 10 rfl)) (by decide) ?_
          refine X_iadd C (dtL_6 (563, .iadd, 1) (mg 11 rfl)) ?_
          refine X_ti (y := nI (i3 + 1)) (nI_add (i3) (1)) ?_
          refine X_sld (v := xs (i3 + 1)) C hSc (vp_in_nI (by omega) (by omega)) (dtL_6 (564, .iaload, 1) (mg 12 rfl)) (by rw [nI_clamp (by omega)]) ?_
          refine X_aload_n C 0 (dtL_6 (565, .aload_n 0, 1) (mg 13 rfl)) rfl rfl ?_
          refine X_iload_n C 3 (dtL_6 (566, .iload_n 3, 1) (mg 14 rfl)) rfl rfl ?_
          refine X_iconst (v := nI (2)) C (dtL_6 (567, .iconst 2, 1) (mg 15 rfl)) (by decide) ?_
          refine X_iadd C (dtL_6 (568, .iadd, 1) (mg 16 rfl)) ?_
          refine X_ti (y := nI (i3 + 2)) (nI_add (i3) (2)) ?_
          refine X_sld (v := xs (i3 + 2)) C hSc (vp_in_nI (by omega) (by omega)) (dtL_6 (569, .iaload, 1) (mg 17 rfl)) (by rw [nI_clamp (by omega)]) ?_
          refine X_cV (As := [.int (xs (i3 + 1)), .int (xs (i3 + 2))]) (st := []) C (post := _) (x) (by omega) hC.2.1 rfl (ct_X7_way hw hC (xs (i3 + 1)) (xs (i3 + 2)) hp18 gp18 hJ.1) kL_76 (by decide) (by decide) rfl rfl (Nat.le_of_ble_eq_true rfl) (dtL_6 (570, .invokevirtual 76, 3) (mg 18 rfl)) rfl (fun v96 H94 G95 hv96 => ?_)
          obtain ⟨⟨y1_, rfl⟩, hw1_⟩ := hv96
          have hk1_ := cKp_w hJ.1 hw1_
          show X k w _ 573 [some (.ref b), some (.ref (wA w (x))), some (.ref (wA w (m))), some (.int (nI (i3)))] [.int (y1_)] H94 G95
          have hMk := J_1 hxm hJ hk1_
          obtain ⟨⟨⟨nu, hnu, eu⟩, ⟨c0, hc0, hat⟩, -⟩, ⟨⟨ms, hms, ese⟩, ⟨mm, hmm, ema⟩⟩, -, ⟨mt, hmt, etx⟩⟩ := id hMk
          refine X_pop C (dtL_6 (573, .pop, 1) (mg 19 rfl)) rfl ?_
          refine X_aload_n C 2 (dtL_6 (574, .aload_n 2, 1) (mg 20 rfl)) rfl rfl ?_
          refine X_aload_n C 0 (dtL_6 (575, .aload_n 0, 1) (mg 21 rfl)) rfl rfl ?_
          refine X_iload_n C 3 (dtL_6 (576, .iload_n 3, 1) (mg 22 rfl)) rfl rfl ?_
          refine X_iconst (v := nI (1)) C (dtL_6 (577, .iconst 1, 1) (mg 23 rfl)) (by decide) ?_
          refine X_iadd C (dtL_6 (578, .iadd, 1) (mg 24 rfl)) ?_
          refine X_ti (y := nI (i3 + 1)) (nI_add (i3) (1)) ?_
          refine X_sld (v := xs (i3 + 1)) C hSc (vp_in_nI (by omega) (by omega)) (dtL_6 (579, .iaload, 1) (mg 25 rfl)) (by rw [nI_clamp (by omega)]) ?_
          refine X_aload_n C 0 (dtL_6 (580, .aload_n 0, 1) (mg 26 rfl)) rfl rfl ?_
          refine X_iload_n C 3 (dtL_6 (581, .iload_n 3, 1) (mg 27 rfl)) rfl rfl ?_
          refine X_iconst (v := nI (2)) C (dtL_6 (582, .iconst 2, 1) (mg 28 rfl)) (by decide) ?_
          refine X_iadd C (dtL_6 (583, .iadd, 1) (mg 29 rfl)) ?_
          refine X_ti (y := nI (i3 + 2)) (nI_add (i3) (2)) ?_
          refine X_sld (v := xs (i3 + 2)) C hSc (vp_in_nI (by omega) (by omega)) (dtL_6 (584, .iaload, 1) (mg 30 rfl)) (by rw [nI_clamp (by omega)]) ?_
          refine X_cV (As := [.int (xs (i3 + 1)), .int (xs (i3 + 2))]) (st := []) C (post := _) (m) (by omega) hM.2.1 rfl (ct_X8_way hw hM (xs (i3 + 1)) (xs (i3 + 2)) H94 G95 hMk) kL_79 (by decide) (by decide) rfl rfl (Nat.le_of_ble_eq_true rfl) (dtL_6 (585, .invokevirtual 79, 3) (mg 31 rfl)) rfl (fun v99 H97 G98 hv99 => ?_)
          obtain ⟨⟨y2_, rfl⟩, hw3_⟩ := hv99
          have hk2_ := mKp_w hMk hw3_
          have hJ2_ := J_kk hxm hJ hk1_ hk2_
          show X k w _ 588 [some (.ref b), some (.ref (wA w (x))), some (.ref (wA w (m))), some (.int (nI (i3)))] [.int (y2_)] H97 G98
          refine X_pop C (dtL_6 (588, .pop, 1) (mg 32 rfl)) rfl ?_
          refine X_goto (tgt := 1076) C (dtL_6 (589, .goto 487, 3) (mg 33 rfl)) (by decide) ?_
          refine X_iinc (v := nI (i3 + 5)) (ls' := [some (.ref b), some (.ref (wA w (x))), some (.ref (wA w (m))), some (.int (nI (i3 + 5)))]) C (dtL_14 (1076, .iinc 3 5, 3) (mg 10 rfl)) rfl (nI_add (i3) 5) rfl ?_
          refine X_goto (tgt := 18) C (dtL_14 (1079, .goto (-1061), 3) (mg 11 rfl)) (by decide) ?_
          refine X_eq (ls' := [some (.ref b), some (.ref (wA w (x))), some (.ref (wA w (m))), some (.int (nI (i3 + 5)))]) (st' := []) (h' := H97) (g' := G98) rfl rfl rfl rfl ?_
          exact ih18 (i3 + 5) (H97) (G98) (by omega) hJ2_ (by omega)
        · refine X_swIn (tgt := 592) C (dtL_0 (32, .tableswitch 1044 0 33 #[152, 185, 208, 241, 264, 277, 290, 323, 346, 369, 392, 405, 438, 471, 504, 527, 560, 593, 646, 669, 692, 735, 758, 771, 784, 817, 850, 883, 916, 939, 962, 985, 1008, 1031], 152) (mg 21 rfl)) (16) (by rw [q2]; decide) (by decide) (by decide) rfl (by decide) ?_
          refine X_aload_n C 1 (dtL_6 (592, .aload_n 1, 1) (mg 34 rfl)) rfl rfl ?_
          refine X_aload_n C 0 (dtL_6 (593, .aload_n 0, 1) (mg 35 rfl)) rfl rfl ?_
          refine X_iload_n C 3 (dtL_6 (594, .iload_n 3, 1) (mg 36 rfl)) rfl rfl ?_
          refine X_iconst (v := nI (1)) C (dtL_6 (595, .iconst 1, 1) (mg 37 rfl)) (by decide) ?_
          refine X_iadd C (dtL_6 (596, .iadd, 1) (mg 38 rfl)) ?_
          refine X_ti (y := nI (i3 + 1)) (nI_add (i3) (1)) ?_
          refine X_sld (v := xs (i3 + 1)) C hSc (vp_in_nI (by omega) (by omega)) (dtL_6 (597, .iaload, 1) (mg 39 rfl)) (by rw [nI_clamp (by omega)]) ?_
          refine X_aload_n C 0 (dtL_6 (598, .aload_n 0, 1) (mg 40 rfl)) rfl rfl ?_
          refine X_iload_n C 3 (dtL_6 (599, .iload_n 3, 1) (mg 41 rfl)) rfl rfl ?_
          refine X_iconst (v := nI (2)) C (dtL_6 (600, .iconst 2, 1) (mg 42 rfl)) (by decide) ?_
          refine X_iadd C (dtL_6 (601, .iadd, 1) (mg 43 rfl)) ?_
          refine X_ti (y := nI (i3 + 2)) (nI_add (i3) (2)) ?_
          refine X_sld (v := xs (i3 + 2)) C hSc (vp_in_nI (by omega) (by omega)) (dtL_6 (602, .iaload, 1) (mg 44 rfl)) (by rw [nI_clamp (by omega)]) ?_
          refine X_cV (As := [.int (xs (i3 + 1)), .int (xs (i3 + 2))]) (st := []) C (post := _) (x) (by omega) hC.2.1 rfl (ct_X7_three hw hC (xs (i3 + 1)) (xs (i3 + 2)) hp18 gp18 hJ.1) kL_80 (by decide) (by decide) rfl rfl (Nat.le_of_ble_eq_true rfl) (dtL_6 (603, .invokevirtual 80, 3) (mg 45 rfl)) rfl (fun v102 H100 G101 hv102 => ?_)
          obtain ⟨⟨y1_, rfl⟩, hw1_⟩ := hv102
          have hk1_ := cKp_w hJ.1 hw1_
          show X k w _ 606 [some (.ref b), some (.ref (wA w (x))), some (.ref (wA w (m))), some (.int (nI (i3)))] [.int (y1_)] H100 G101
          have hMk := J_1 hxm hJ hk1_
          obtain ⟨⟨⟨nu, hnu, eu⟩, ⟨c0, hc0, hat⟩, -⟩, ⟨⟨ms, hms, ese⟩, ⟨mm, hmm, ema⟩⟩, -, ⟨mt, hmt, etx⟩⟩ := id hMk
          refine X_pop C (dtL_6 (606, .pop, 1) (mg 46 rfl)) rfl ?_
          refine X_aload_n C 2 (dtL_6 (607, .aload_n 2, 1) (mg 47 rfl)) rfl rfl ?_
          refine X_aload_n C 0 (dtL_6 (608, .aload_n 0, 1) (mg 48 rfl)) rfl rfl ?_
          refine X_iload_n C 3 (dtL_6 (609, .iload_n 3, 1) (mg 49 rfl)) rfl rfl ?_
          refine X_iconst (v := nI (1)) C (dtL_7 (610, .iconst 1, 1) (mg 0 rfl)) (by decide) ?_
          refine X_iadd C (dtL_7 (611, .iadd, 1) (mg 1 rfl)) ?_
          refine X_ti (y := nI (i3 + 1)) (nI_add (i3) (1)) ?_
          refine X_sld (v := xs (i3 + 1)) C hSc (vp_in_nI (by omega) (by omega)) (dtL_7 (612, .iaload, 1) (mg 2 rfl)) (by rw [nI_clamp (by omega)]) ?_
          refine X_aload_n C 0 (dtL_7 (613, .aload_n 0, 1) (mg 3 rfl)) rfl rfl ?_
          refine X_iload_n C 3 (dtL_7 (614, .iload_n 3, 1) (mg 4 rfl)) rfl rfl ?_
          refine X_iconst (v := nI (2)) C (dtL_7 (615, .iconst 2, 1) (mg 5 rfl)) (by decide) ?_
          refine X_iadd C (dtL_7 (616, .iadd, 1) (mg 6 rfl)) ?_
          refine X_ti (y := nI (i3 + 2)) (nI_add (i3) (2)) ?_
          refine X_sld (v := xs (i3 + 2)) C hSc (vp_in_nI (by omega) (by omega)) (dtL_7 (617, .iaload, 1) (mg 7 rfl)) (by rw [nI_clamp (by omega)]) ?_
          refine X_cV (As := [.int (xs (i3 + 1)), .int (xs (i3 + 2))]) (st := []) C (post := _) (m) (by omega) hM.2.1 rfl (ct_X8_three hw hM (xs (i3 + 1)) (xs (i3 + 2)) H100 G101 hMk) kL_83 (by decide) (by decide) rfl rfl (Nat.le_of_ble_eq_true rfl) (dtL_7 (618, .invokevirtual 83, 3) (mg 8 rfl)) rfl (fun v105 H103 G104 hv105 => ?_)
          obtain ⟨⟨y2_, rfl⟩, hw3_⟩ := hv105
          have hk2_ := mKp_w hMk hw3_
          have hJ2_ := J_kk hxm hJ hk1_ hk2_
          show X k w _ 621 [some (.ref b), some (.ref (wA w (x))), some (.ref (wA w (m))), some (.int (nI (i3)))] [.int (y2_)] H103 G104
          refine X_pop C (dtL_7 (621, .pop, 1) (mg 9 rfl)) rfl ?_
          refine X_goto (tgt := 1076) C (dtL_7 (622, .goto 454, 3) (mg 10 rfl)) (by decide) ?_
          refine X_iinc (v := nI (i3 + 5)) (ls' := [some (.ref b), some (.ref (wA w (x))), some (.ref (wA w (m))), some (.int (nI (i3 + 5)))]) C (dtL_14 (1076, .iinc 3 5, 3) (mg 10 rfl)) rfl (nI_add (i3) 5) rfl ?_
          refine X_goto (tgt := 18) C (dtL_14 (1079, .goto (-1061), 3) (mg 11 rfl)) (by decide) ?_
          refine X_eq (ls' := [some (.ref b), some (.ref (wA w (x))), some (.ref (wA w (m))), some (.int (nI (i3 + 5)))]) (st' := []) (h' := H103) (g' := G104) rfl rfl rfl rfl ?_
          exact ih18 (i3 + 5) (H103) (G104) (by omega) hJ2_ (by omega)
        · refine X_swIn (tgt := 625) C (dtL_0 (32, .tableswitch 1044 0 33 #[152, 185, 208, 241, 264, 277, 290, 323, 346, 369, 392, 405, 438, 471, 504, 527, 560, 593, 646, 669, 692, 735, 758, 771, 784, 817, 850, 883, 916, 939, 962, 985, 1008, 1031], 152) (mg 21 rfl)) (17) (by rw [q2]; decide) (by decide) (by decide) rfl (by decide) ?_
          refine X_aload_n C 1 (dtL_7 (625, .aload_n 1, 1) (mg 11 rfl)) rfl rfl ?_
          refine X_aload_n C 0 (dtL_7 (626, .aload_n 0, 1) (mg 12 rfl)) rfl rfl ?_
          refine X_iload_n C 3 (dtL_7 (627, .iload_n 3, 1) (mg 13 rfl)) rfl rfl ?_
          refine X_iconst (v := nI (1)) C (dtL_7 (628, .iconst 1, 1) (mg 14 rfl)) (by decide) ?_
          refine X_iadd C (dtL_7 (629, .iadd, 1) (mg 15 rfl)) ?_
          refine X_ti (y := nI (i3 + 1)) (nI_add (i3) (1)) ?_
          refine X_sld (v := xs (i3 + 1)) C hSc (vp_in_nI (by omega) (by omega)) (dtL_7 (630, .iaload, 1) (mg 16 rfl)) (by rw [nI_clamp (by omega)]) ?_
          refine X_aload_n C 0 (dtL_7 (631, .aload_n 0, 1) (mg 17 rfl)) rfl rfl ?_
          refine X_iload_n C 3 (dtL_7 (632, .iload_n 3, 1) (mg 18 rfl)) rfl rfl ?_
          refine X_iconst (v := nI (2)) C (dtL_7 (633, .iconst 2, 1) (mg 19 rfl)) (by decide) ?_
          refine X_iadd C (dtL_7 (634, .iadd, 1) (mg 20 rfl)) ?_
          refine X_ti (y := nI (i3 + 2)) (nI_add (i3) (2)) ?_
          refine X_sld (v := xs (i3 + 2)) C hSc (vp_in_nI (by omega) (by omega)) (dtL_7 (635, .iaload, 1) (mg 21 rfl)) (by rw [nI_clamp (by omega)]) ?_
          refine X_aload_n C 0 (dtL_7 (636, .aload_n 0, 1) (mg 22 rfl)) rfl rfl ?_
          refine X_iload_n C 3 (dtL_7 (637, .iload_n 3, 1) (mg 23 rfl)) rfl rfl ?_
          refine X_iconst (v := nI (3)) C (dtL_7 (638, .iconst 3, 1) (mg 24 rfl)) (by decide) ?_
          refine X_iadd C (dtL_7 (639, .iadd, 1) (mg 25 rfl)) ?_
          refine X_ti (y := nI (i3 + 3)) (nI_add (i3) (3)) ?_
          refine X_sld (v := xs (i3 + 3)) C hSc (vp_in_nI (by omega) (by omega)) (dtL_7 (640, .iaload, 1) (mg 26 rfl)) (by rw [nI_clamp (by omega)]) ?_
          refine X_aload_n C 0 (dtL_7 (641, .aload_n 0, 1) (mg 27 rfl)) rfl rfl ?_
          refine X_iload_n C 3 (dtL_7 (642, .iload_n 3, 1) (mg 28 rfl)) rfl rfl ?_
          refine X_iconst (v := nI (4)) C (dtL_7 (643, .iconst 4, 1) (mg 29 rfl)) (by decide) ?_
          refine X_iadd C (dtL_7 (644, .iadd, 1) (mg 30 rfl)) ?_
          refine X_ti (y := nI (i3 + 4)) (nI_add (i3) (4)) ?_
          refine X_sld (v := xs (i3 + 4)) C hSc (vp_in_nI (by omega) (by omega)) (dtL_7 (645, .iaload, 1) (mg 31 rfl)) (by rw [nI_clamp (by omega)]) ?_
          refine X_cV (As := [.int (xs (i3 + 1)), .int (xs (i3 + 2)), .int (xs (i3 + 3)), .int (xs (i3 + 4))]) (st := []) C (post := _) (x) (by omega) hC.2.1 rfl (ct_X7_seen hw hC (xs (i3 + 1)) (xs (i3 + 2)) (xs (i3 + 3)) (xs (i3 + 4)) (n := ns) hns hp18 gp18 hse) kL_84 (by decide) (by decide) rfl rfl (Nat.le_of_ble_eq_true rfl) (dtL_7 (646, .invokevirtual 84, 3) (mg 32 rfl)) rfl (fun v108 H106 G107 hv108 => ?_)
          obtain ⟨⟨y1_, rfl⟩, hk1_⟩ := cKp_seen (n := ns) hJ.1 hns hv108
          show X k w _ 649 [some (.ref b), some (.ref (wA w (x))), some (.ref (wA w (m))), some (.int (nI (i3)))] [.int (y1_)] H106 G107
          have hMk := J_1 hxm hJ hk1_
          obtain ⟨⟨⟨nu, hnu, eu⟩, ⟨c0, hc0, hat⟩, -⟩, ⟨⟨ms, hms, ese⟩, ⟨mm, hmm, ema⟩⟩, -, ⟨mt, hmt, etx⟩⟩ := id hMk
          refine X_pop C (dtL_7 (649, .pop, 1) (mg 33 rfl)) rfl ?_
          refine X_aload_n C 2 (dtL_7 (650, .aload_n 2, 1) (mg 34 rfl)) rfl rfl ?_
          refine X_aload_n C 0 (dtL_7 (651, .aload_n 0, 1) (mg 35 rfl)) rfl rfl ?_
          refine X_iload_n C 3 (dtL_7 (652, .iload_n 3, 1) (mg 36 rfl)) rfl rfl ?_
          refine X_iconst (v := nI (1)) C (dtL_7 (653, .iconst 1, 1) (mg 37 rfl)) (by decide) ?_
          refine X_iadd C (dtL_7 (654, .iadd, 1) (mg 38 rfl)) ?_
          refine X_ti (y := nI (i3 + 1)) (nI_add (i3) (1)) ?_
          refine X_sld (v := xs (i3 + 1)) C hSc (vp_in_nI (by omega) (by omega)) (dtL_7 (655, .iaload, 1) (mg 39 rfl)) (by rw [nI_clamp (by omega)]) ?_
          refine X_aload_n C 0 (dtL_7 (656, .aload_n 0, 1) (mg 40 rfl)) rfl rfl ?_
          refine X_iload_n C 3 (dtL_7 (657, .iload_n 3, 1) (mg 41 rfl)) rfl rfl ?_
          refine X_iconst (v := nI (2)) C (dtL_7 (658, .iconst 2, 1) (mg 42 rfl)) (by decide) ?_
          refine X_iadd C (dtL_7 (659, .iadd, 1) (mg 43 rfl)) ?_
          refine X_ti (y := nI (i3 + 2)) (nI_add (i3) (2)) ?_
          refine X_sld (v := xs (i3 + 2)) C hSc (vp_in_nI (by omega) (by omega)) (dtL_7 (660, .iaload, 1) (mg 44 rfl)) (by rw [nI_clamp (by omega)]) ?_
          refine X_aload_n C 0 (dtL_7 (661, .aload_n 0, 1) (mg 45 rfl)) rfl rfl ?_
          refine X_iload_n C 3 (dtL_7 (662, .iload_n 3, 1) (mg 46 rfl)) rfl rfl ?_
          refine X_iconst (v := nI (3)) C (dtL_7 (663, .iconst 3, 1) (mg 47 rfl)) (by decide) ?_
          refine X_iadd C (dtL_7 (664, .iadd, 1) (mg 48 rfl)) ?_
          refine X_ti (y := nI (i3 + 3)) (nI_add (i3) (3)) ?_
          refine X_sld (v := xs (i3 + 3)) C hSc (vp_in_nI (by omega) (by omega)) (dtL_7 (665, .iaload, 1) (mg 49 rfl)) (by rw [nI_clamp (by omega)]) ?_
          refine X_aload_n C 0 (dtL_8 (666, .aload_n 0, 1) (mg 0 rfl)) rfl rfl ?_
          refine X_iload_n C 3 (dtL_8 (667, .iload_n 3, 1) (mg 1 rfl)) rfl rfl ?_
          refine X_iconst (v := nI (4)) C (dtL_8 (668, .iconst 4, 1) (mg 2 rfl)) (by decide) ?_
          refine X_iadd C (dtL_8 (669, .iadd, 1) (mg 3 rfl)) ?_
          refine X_ti (y := nI (i3 + 4)) (nI_add (i3) (4)) ?_
          refine X_sld (v := xs (i3 + 4)) C hSc (vp_in_nI (by omega) (by omega)) (dtL_8 (670, .iaload, 1) (mg 4 rfl)) (by rw [nI_clamp (by omega)]) ?_
          refine X_cV (As := [.int (xs (i3 + 1)), .int (xs (i3 + 2)), .int (xs (i3 + 3)), .int (xs (i3 + 4))]) (st := []) C (post := _) (m) (by omega) hM.2.1 rfl (ct_X8_seen hw hM (xs (i3 + 1)) (xs (i3 + 2)) (xs (i3 + 3)) (xs (i3 + 4)) (n := ms) hms H106 G107 ese) kL_88 (by decide) (by decide) rfl rfl (Nat.le_of_ble_eq_true rfl) (dtL_8 (671, .invokevirtual 88, 3) (mg 5 rfl)) rfl (fun v111 H109 G110 hv111 => ?_)
          obtain ⟨⟨y2_, rfl⟩, hk2_⟩ := mKp_seen hMk hms hv111
          have hJ2_ := J_kk hxm hJ hk1_ hk2_
          show X k w _ 674 [some (.ref b), some (.ref (wA w (x))), some (.ref (wA w (m))), some (.int (nI (i3)))] [.int (y2_)] H109 G110
          refine X_pop C (dtL_8 (674, .pop, 1) (mg 6 rfl)) rfl ?_
          refine X_goto (tgt := 1076) C (dtL_8 (675, .goto 401, 3) (mg 7 rfl)) (by decide) ?_
          refine X_iinc (v := nI (i3 + 5)) (ls' := [some (.ref b), some (.ref (wA w (x))), some (.ref (wA w (m))), some (.int (nI (i3 + 5)))]) C (dtL_14 (1076, .iinc 3 5, 3) (mg 10 rfl)) rfl (nI_add (i3) 5) rfl ?_
          refine X_goto (tgt := 18) C (dtL_14 (1079, .goto (-1061), 3) (mg 11 rfl)) (by decide) ?_
          refine X_eq (ls' := [some (.ref b), some (.ref (wA w (x))), some (.ref (wA w (m))), some (.int (nI (i3 + 5)))]) (st' := []) (h' := H109) (g' := G110) rfl rfl rfl rfl ?_
          exact ih18 (i3 + 5) (H109) (G110) (by omega) hJ2_ (by omega)
        · refine X_swIn (tgt := 678) C (dtL_0 (32, .tableswitch 1044 0 33 #[152, 185, 208, 241, 264, 277, 290, 323, 346, 369, 392, 405, 438, 471, 504, 527, 560, 593, 646, 669, 692, 735, 758, 771, 784, 817, 850, 883, 916, 939, 962, 985, 1008, 1031], 152) (mg 21 rfl)) (18) (by rw [q2]; decide) (by decide) (by decide) rfl (by decide) ?_
          refine X_aload_n C 1 (dtL_8 (678, .aload_n 1, 1) (mg 8 rfl)) rfl rfl ?_
          refine X_aload_n C 0 (dtL_8 (679, .aload_n 0, 1) (mg 9 rfl)) rfl rfl ?_
          refine X_iload_n C 3 (dtL_8 (680, .iload_n 3, 1) (mg 10 rfl)) rfl rfl ?_
          refine X_iconst (v := nI (1)) C (dtL_8 (681, .iconst 1, 1) (mg 11 rfl)) (by decide) ?_
          refine X_iadd C (dtL_8 (682, .iadd, 1) (mg 12 rfl)) ?_
          refine X_ti (y := nI (i3 + 1)) (nI_add (i3) (1)) ?_
          refine X_sld (v := xs (i3 + 1)) C hSc (vp_in_nI (by omega) (by omega)) (dtL_8 (683, .iaload, 1) (mg 13 rfl)) (by rw [nI_clamp (by omega)]) ?_
          refine X_cV (As := [.int (xs (i3 + 1))]) (st := []) C (post := _) (x) (by omega) hC.2.1 rfl (ct_X7_said hw hC (xs (i3 + 1)) hp18 gp18 hJ.1) kL_89 (by decide) (by decide) rfl rfl (Nat.le_of_ble_eq_true rfl) (dtL_8 (684, .invokevirtual 89, 3) (mg 14 rfl)) rfl (fun v114 H112 G113 hv114 => ?_)
          obtain ⟨⟨y1_, rfl⟩, hw1_⟩ := hv114
          have hk1_ := cKp_w hJ.1 hw1_
          show X k w _ 687 [some (.ref b), some (.ref (wA w (x))), some (.ref (wA w (m))), some (.int (nI (i3)))] [.int (y1_)] H112 G113
          have hMk := J_1 hxm hJ hk1_
          obtain ⟨⟨⟨nu, hnu, eu⟩, ⟨c0, hc0, hat⟩, -⟩, ⟨⟨ms, hms, ese⟩, ⟨mm, hmm, ema⟩⟩, -, ⟨mt, hmt, etx⟩⟩ := id hMk
          refine X_pop C (dtL_8 (687, .pop, 1) (mg 15 rfl)) rfl ?_
          refine X_aload_n C 2 (dtL_8 (688, .aload_n 2, 1) (mg 16 rfl)) rfl rfl ?_
          refine X_aload_n C 0 (dtL_8 (689, .aload_n 0, 1) (mg 17 rfl)) rfl rfl ?_
          refine X_iload_n C 3 (dtL_8 (690, .iload_n 3, 1) (mg 18 rfl)) rfl rfl ?_
          refine X_iconst (v := nI (1)) C (dtL_8 (691, .iconst 1, 1) (mg 19 rfl)) (by decide) ?_
          refine X_iadd C (dtL_8 (692, .iadd, 1) (mg 20 rfl)) ?_
          refine X_ti (y := nI (i3 + 1)) (nI_add (i3) (1)) ?_
          refine X_sld (v := xs (i3 + 1)) C hSc (vp_in_nI (by omega) (by omega)) (dtL_8 (693, .iaload, 1) (mg 21 rfl)) (by rw [nI_clamp (by omega)]) ?_
          refine X_cV (As := [.int (xs (i3 + 1))]) (st := []) C (post := _) (m) (by omega) hM.2.1 rfl (ct_X8_said hw hM (xs (i3 + 1)) (n := ms) hms H112 G113 ese) kL_92 (by decide) (by decide) rfl rfl (Nat.le_of_ble_eq_true rfl) (dtL_8 (694, .invokevirtual 92, 3) (mg 22 rfl)) rfl (fun v117 H115 G116 hv117 => ?_)
          obtain ⟨⟨y2_, rfl⟩, hk2_⟩ := mKp_look hMk hv117
          have hJ2_ := J_kk hxm hJ hk1_ hk2_
          show X k w _ 697 [some (.ref b), some (.ref (wA w (x))), some (.ref (wA w (m))), some (.int (nI (i3)))] [.int (y2_)] H115 G116
          refine X_pop C (dtL_8 (697, .pop, 1) (mg 23 rfl)) rfl ?_
          refine X_goto (tgt := 1076) C (dtL_8 (698, .goto 378, 3) (mg 24 rfl)) (by decide) ?_
          refine X_iinc (v := nI (i3 + 5)) (ls' := [some (.ref b), some (.ref (wA w (x))), some (.ref (wA w (m))), some (.int (nI (i3 + 5)))]) C (dtL_14 (1076, .iinc 3 5, 3) (mg 10 rfl)) rfl (nI_add (i3) 5) rfl ?_
          refine X_goto (tgt := 18) C (dtL_14 (1079, .goto (-1061), 3) (mg 11 rfl)) (by decide) ?_
          refine X_eq (ls' := [some (.ref b), some (.ref (wA w (x))), some (.ref (wA w (m))), some (.int (nI (i3 + 5)))]) (st' := []) (h' := H115) (g' := G116) rfl rfl rfl rfl ?_
          exact ih18 (i3 + 5) (H115) (G116) (by omega) hJ2_ (by omega)
        · refine X_swIn (tgt := 701) C (dtL_0 (32, .tableswitch 1044 0 33 #[152, 185, 208, 241, 264, 277, 290, 323, 346, 369, 392, 405, 438, 471, 504, 527, 560, 593, 646, 669, 692, 735, 758, 771, 784, 817, 850, 883, 916, 939, 962, 985, 1008, 1031], 152) (mg 21 rfl)) (19) (by rw [q2]; decide) (by decide) (by decide) rfl (by decide) ?_
          refine X_aload_n C 1 (dtL_8 (701, .aload_n 1, 1) (mg 25 rfl)) rfl rfl ?_
          refine X_aload_n C 0 (dtL_8 (702, .aload_n 0, 1) (mg 26 rfl)) rfl rfl ?_
          refine X_iload_n C 3 (dtL_8 (703, .iload_n 3, 1) (mg 27 rfl)) rfl rfl ?_
          refine X_iconst (v := nI (1)) C (dtL_8 (704, .iconst 1, 1) (mg 28 rfl)) (by decide) ?_
          refine X_iadd C (dtL_8 (705, .iadd, 1) (mg 29 rfl)) ?_
          refine X_ti (y := nI (i3 + 1)) (nI_add (i3) (1)) ?_
          refine X_sld (v := xs (i3 + 1)) C hSc (vp_in_nI (by omega) (by omega)) (dtL_8 (706, .iaload, 1) (mg 30 rfl)) (by rw [nI_clamp (by omega)]) ?_
          refine X_cV (As := [.int (xs (i3 + 1))]) (st := []) C (post := _) (x) (by omega) hC.2.1 rfl (ct_X7_tell hw hC (xs (i3 + 1)) hp18 gp18 hJ.1) kL_93 (by decide) (by decide) rfl rfl (Nat.le_of_ble_eq_true rfl) (dtL_8 (707, .invokevirtual 93, 3) (mg 31 rfl)) rfl (fun v120 H118 G119 hv120 => ?_)
          obtain ⟨⟨y1_, rfl⟩, hw1_⟩ := hv120
          have hk1_ := cKp_w hJ.1 hw1_
          show X k w _ 710 [some (.ref b), some (.ref (wA w (x))), some (.ref (wA w (m))), some (.int (nI (i3)))] [.int (y1_)] H118 G119
          have hMk := J_1 hxm hJ hk1_
          obtain ⟨⟨⟨nu, hnu, eu⟩, ⟨c0, hc0, hat⟩, -⟩, ⟨⟨ms, hms, ese⟩, ⟨mm, hmm, ema⟩⟩, -, ⟨mt, hmt, etx⟩⟩ := id hMk
          refine X_pop C (dtL_8 (710, .pop, 1) (mg 32 rfl)) rfl ?_
          refine X_aload_n C 2 (dtL_8 (711, .aload_n 2, 1) (mg 33 rfl)) rfl rfl ?_
          refine X_aload_n C 0 (dtL_8 (712, .aload_n 0, 1) (mg 34 rfl)) rfl rfl ?_
          refine X_iload_n C 3 (dtL_8 (713, .iload_n 3, 1) (mg 35 rfl)) rfl rfl ?_
          refine X_iconst (v := nI (1)) C (dtL_8 (714, .iconst 1, 1) (mg 36 rfl)) (by decide) ?_
          refine X_iadd C (dtL_8 (715, .iadd, 1) (mg 37 rfl)) ?_
          refine X_ti (y := nI (i3 + 1)) (nI_add (i3) (1)) ?_
          refine X_sld (v := xs (i3 + 1)) C hSc (vp_in_nI (by omega) (by omega)) (dtL_8 (716, .iaload, 1) (mg 38 rfl)) (by rw [nI_clamp (by omega)]) ?_
          refine X_cV (As := [.int (xs (i3 + 1))]) (st := []) C (post := _) (m) (by omega) hM.2.1 rfl (ct_X8_tell hw hM (xs (i3 + 1)) H118 G119 hMk) kL_96 (by decide) (by decide) rfl rfl (Nat.le_of_ble_eq_true rfl) (dtL_8 (717, .invokevirtual 96, 3) (mg 39 rfl)) rfl (fun v123 H121 G122 hv123 => ?_)
          obtain ⟨⟨y2_, rfl⟩, hw3_⟩ := hv123
          have hk2_ := mKp_w hMk hw3_
          have hJ2_ := J_kk hxm hJ hk1_ hk2_
          show X k w _ 720 [some (.ref b), some (.ref (wA w (x))), some (.ref (wA w (m))), some (.int (nI (i3)))] [.int (y2_)] H121 G122
          refine X_pop C (dtL_8 (720, .pop, 1) (mg 40 rfl)) rfl ?_
          refine X_goto (tgt := 1076) C (dtL_8 (721, .goto 355, 3) (mg 41 rfl)) (by decide) ?_
          refine X_iinc (v := nI (i3 + 5)) (ls' := [some (.ref b), some (.ref (wA w (x))), some (.ref (wA w (m))), some (.int (nI (i3 + 5)))]) C (dtL_14 (1076, .iinc 3 5, 3) (mg 10 rfl)) rfl (nI_add (i3) 5) rfl ?_
          refine X_goto (tgt := 18) C (dtL_14 (1079, .goto (-1061), 3) (mg 11 rfl)) (by decide) ?_
          refine X_eq (ls' := [some (.ref b), some (.ref (wA w (x))), some (.ref (wA w (m))), some (.int (nI (i3 + 5)))]) (st' := []) (h' := H121) (g' := G122) rfl rfl rfl rfl ?_
          exact ih18 (i3 + 5) (H121) (G122) (by omega) hJ2_ (by omega)
        · refine X_swIn (tgt := 724) C (dtL_0 (32, .tableswitch 1044 0 33 #[152, 185, 208, 241, 264, 277, 290, 323, 346, 369, 392, 405, 438, 471, 504, 527, 560, 593, 646, 669, 692, 735, 758, 771, 784, 817, 850, 883, 916, 939, 962, 985, 1008, 1031], 152) (mg 21 rfl)) (20) (by rw [q2]; decide) (by decide) (by decide) rfl (by decide) ?_
          refine X_aload_n C 1 (dtL_8 (724, .aload_n 1, 1) (mg 42 rfl)) rfl rfl ?_
          refine X_aload_n C 0 (dtL_8 (725, .aload_n 0, 1) (mg 43 rfl)) rfl rfl ?_
          refine X_iload_n C 3 (dtL_8 (726, .iload_n 3, 1) (mg 44 rfl)) rfl rfl ?_
          refine X_iconst (v := nI (1)) C (dtL_8 (727, .iconst 1, 1) (mg 45 rfl)) (by decide) ?_
          refine X_iadd C (dtL_8 (728, .iadd, 1) (mg 46 rfl)) ?_
          refine X_ti (y := nI (i3 + 1)) (nI_add (i3) (1)) ?_
          refine X_sld (v := xs (i3 + 1)) C hSc (vp_in_nI (by omega) (by omega)) (dtL_8 (729, .iaload, 1) (mg 47 rfl)) (by rw [nI_clamp (by omega)]) ?_
          refine X_aload_n C 0 (dtL_8 (730, .aload_n 0, 1) (mg 48 rfl)) rfl rfl ?_
          refine X_iload_n C 3 (dtL_8 (731, .iload_n 3, 1) (mg 49 rfl)) rfl rfl ?_
          refine X_iconst (v := nI (2)) C (dtL_9 (732, .iconst 2, 1) (mg 0 rfl)) (by decide) ?_
          refine X_iadd C (dtL_9 (733, .iadd, 1) (mg 1 rfl)) ?_
          refine X_ti (y := nI (i3 + 2)) (nI_add (i3) (2)) ?_
          refine X_sld (v := xs (i3 + 2)) C hSc (vp_in_nI (by omega) (by omega)) (dtL_9 (734, .iaload, 1) (mg 2 rfl)) (by rw [nI_clamp (by omega)]) ?_
          refine X_aload_n C 0 (dtL_9 (735, .aload_n 0, 1) (mg 3 rfl)) rfl rfl ?_
          refine X_iload_n C 3 (dtL_9 (736, .iload_n 3, 1) (mg 4 rfl)) rfl rfl ?_
          refine X_iconst (v := nI (3)) C (dtL_9 (737, .iconst 3, 1) (mg 5 rfl)) (by decide) ?_
          refine X_iadd C (dtL_9 (738, .iadd, 1) (mg 6 rfl)) ?_
          refine X_ti (y := nI (i3 + 3)) (nI_add (i3) (3)) ?_
          refine X_sld (v := xs (i3 + 3)) C hSc (vp_in_nI (by omega) (by omega)) (dtL_9 (739, .iaload, 1) (mg 7 rfl)) (by rw [nI_clamp (by omega)]) ?_
          refine X_cV (As := [.int (xs (i3 + 1)), .int (xs (i3 + 2)), .int (xs (i3 + 3))]) (st := []) C (post := _) (x) (by omega) hC.2.1 rfl (ct_X7_mark hw hC (xs (i3 + 1)) (xs (i3 + 2)) (xs (i3 + 3)) (n := nm) hnm hp18 gp18 hma) kL_97 (by decide) (by decide) rfl rfl (Nat.le_of_ble_eq_true rfl) (dtL_9 (740, .invokevirtual 97, 3) (mg 8 rfl)) rfl (fun v126 H124 G125 hv126 => ?_)
          obtain ⟨⟨y1_, rfl⟩, hk1_⟩ := cKp_mark (n := nm) hJ.1 hnm hv126
          show X k w _ 743 [some (.ref b), some (.ref (wA w (x))), some (.ref (wA w (m))), some (.int (nI (i3)))] [.int (y1_)] H124 G125
          have hMk := J_1 hxm hJ hk1_
          obtain ⟨⟨⟨nu, hnu, eu⟩, ⟨c0, hc0, hat⟩, -⟩, ⟨⟨ms, hms, ese⟩, ⟨mm, hmm, ema⟩⟩, -, ⟨mt, hmt, etx⟩⟩ := id hMk
          refine X_pop C (dtL_9 (743, .pop, 1) (mg 9 rfl)) rfl ?_
          refine X_aload_n C 2 (dtL_9 (744, .aload_n 2, 1) (mg 10 rfl)) rfl rfl ?_
          refine X_aload_n C 0 (dtL_9 (745, .aload_n 0, 1) (mg 11 rfl)) rfl rfl ?_
          refine X_iload_n C 3 (dtL_9 (746, .iload_n 3, 1) (mg 12 rfl)) rfl rfl ?_
          refine X_iconst (v := nI (1)) C (dtL_9 (747, .iconst 1, 1) (mg 13 rfl)) (by decide) ?_
          refine X_iadd C (dtL_9 (748, .iadd, 1) (mg 14 rfl)) ?_
          refine X_ti (y := nI (i3 + 1)) (nI_add (i3) (1)) ?_
          refine X_sld (v := xs (i3 + 1)) C hSc (vp_in_nI (by omega) (by omega)) (dtL_9 (749, .iaload, 1) (mg 15 rfl)) (by rw [nI_clamp (by omega)]) ?_
          refine X_aload_n C 0 (dtL_9 (750, .aload_n 0, 1) (mg 16 rfl)) rfl rfl ?_
          refine X_iload_n C 3 (dtL_9 (751, .iload_n 3, 1) (mg 17 rfl)) rfl rfl ?_
          refine X_iconst (v := nI (2)) C (dtL_9 (752, .iconst 2, 1) (mg 18 rfl)) (by decide) ?_
          refine X_iadd C (dtL_9 (753, .iadd, 1) (mg 19 rfl)) ?_
          refine X_ti (y := nI (i3 + 2)) (nI_add (i3) (2)) ?_
          refine X_sld (v := xs (i3 + 2)) C hSc (vp_in_nI (by omega) (by omega)) (dtL_9 (754, .iaload, 1) (mg 20 rfl)) (by rw [nI_clamp (by omega)]) ?_
          refine X_aload_n C 0 (dtL_9 (755, .aload_n 0, 1) (mg 21 rfl)) rfl rfl ?_
          refine X_iload_n C 3 (dtL_9 (756, .iload_n 3, 1) (mg 22 rfl)) rfl rfl ?_
          refine X_iconst (v := nI (3)) C (dtL_9 (757, .iconst 3, 1) (mg 23 rfl)) (by decide) ?_
          refine X_iadd C (dtL_9 (758, .iadd, 1) (mg 24 rfl)) ?_
          refine X_ti (y := nI (i3 + 3)) (nI_add (i3) (3)) ?_
          refine X_sld (v := xs (i3 + 3)) C hSc (vp_in_nI (by omega) (by omega)) (dtL_9 (759, .iaload, 1) (mg 25 rfl)) (by rw [nI_clamp (by omega)]) ?_
          refine X_cV (As := [.int (xs (i3 + 1)), .int (xs (i3 + 2)), .int (xs (i3 + 3))]) (st := []) C (post := _) (m) (by omega) hM.2.1 rfl (ct_X8_mark hw hM (xs (i3 + 1)) (xs (i3 + 2)) (xs (i3 + 3)) (n := mm) hmm H124 G125 ema) kL_101 (by decide) (by decide) rfl rfl (Nat.le_of_ble_eq_true rfl) (dtL_9 (760, .invokevirtual 101, 3) (mg 26 rfl)) rfl (fun v129 H127 G128 hv129 => ?_)
          obtain ⟨⟨y2_, rfl⟩, hk2_⟩ := mKp_mark hMk hmm hv129
          have hJ2_ := J_kk hxm hJ hk1_ hk2_
          show X k w _ 763 [some (.ref b), some (.ref (wA w (x))), some (.ref (wA w (m))), some (.int (nI (i3)))] [.int (y2_)] H127 G128
          refine X_pop C (dtL_9 (763, .pop, 1) (mg 27 rfl)) rfl ?_
          refine X_goto (tgt := 1076) C (dtL_9 (764, .goto 312, 3) (mg 28 rfl)) (by decide) ?_
          refine X_iinc (v := nI (i3 + 5)) (ls' := [some (.ref b), some (.ref (wA w (x))), some (.ref (wA w (m))), some (.int (nI (i3 + 5)))]) C (dtL_14 (1076, .iinc 3 5, 3) (mg 10 rfl)) rfl (nI_add (i3) 5) rfl ?_
          refine X_goto (tgt := 18) C (dtL_14 (1079, .goto (-1061), 3) (mg 11 rfl)) (by decide) ?_
          refine X_eq (ls' := [some (.ref b), some (.ref (wA w (x))), some (.ref (wA w (m))), some (.int (nI (i3 + 5)))]) (st' := []) (h' := H127) (g' := G128) rfl rfl rfl rfl ?_
          exact ih18 (i3 + 5) (H127) (G128) (by omega) hJ2_ (by omega)
        · refine X_swIn (tgt := 767) C (dtL_0 (32, .tableswitch 1044 0 33 #[152, 185, 208, 241, 264, 277, 290, 323, 346, 369, 392, 405, 438, 471, 504, 527, 560, 593, 646, 669, 692, 735, 758, 771, 784, 817, 850, 883, 916, 939, 962, 985, 1008, 1031], 152) (mg 21 rfl)) (21) (by rw [q2]; decide) (by decide) (by decide) rfl (by decide) ?_
          refine X_aload_n C 1 (dtL_9 (767, .aload_n 1, 1) (mg 29 rfl)) rfl rfl ?_
          refine X_aload_n C 0 (dtL_9 (768, .aload_n 0, 1) (mg 30 rfl)) rfl rfl ?_
          refine X_iload_n C 3 (dtL_9 (769, .iload_n 3, 1) (mg 31 rfl)) rfl rfl ?_
          refine X_iconst (v := nI (1)) C (dtL_9 (770, .iconst 1, 1) (mg 32 rfl)) (by decide) ?_
          refine X_iadd C (dtL_9 (771, .iadd, 1) (mg 33 rfl)) ?_
          refine X_ti (y := nI (i3 + 1)) (nI_add (i3) (1)) ?_
          refine X_sld (v := xs (i3 + 1)) C hSc (vp_in_nI (by omega) (by omega)) (dtL_9 (772, .iaload, 1) (mg 34 rfl)) (by rw [nI_clamp (by omega)]) ?_
          refine X_cV (As := [.int (xs (i3 + 1))]) (st := []) C (post := _) (x) (by omega) hC.2.1 rfl (ct_X7_forget hw hC (xs (i3 + 1)) hp18 gp18) kL_102 (by decide) (by decide) rfl rfl (Nat.le_of_ble_eq_true rfl) (dtL_9 (773, .invokevirtual 102, 3) (mg 35 rfl)) rfl (fun v132 H130 G131 hv132 => ?_)
          obtain ⟨⟨y1_, rfl⟩, hk1_⟩ := cKp_forget hJ.1 hv132
          show X k w _ 776 [some (.ref b), some (.ref (wA w (x))), some (.ref (wA w (m))), some (.int (nI (i3)))] [.int (y1_)] H130 G131
          have hMk := J_1 hxm hJ hk1_
          obtain ⟨⟨⟨nu, hnu, eu⟩, ⟨c0, hc0, hat⟩, -⟩, ⟨⟨ms, hms, ese⟩, ⟨mm, hmm, ema⟩⟩, -, ⟨mt, hmt, etx⟩⟩ := id hMk
          refine X_pop C (dtL_9 (776, .pop, 1) (mg 36 rfl)) rfl ?_
          refine X_aload_n C 2 (dtL_9 (777, .aload_n 2, 1) (mg 37 rfl)) rfl rfl ?_
          refine X_aload_n C 0 (dtL_9 (778, .aload_n 0, 1) (mg 38 rfl)) rfl rfl ?_
          refine X_iload_n C 3 (dtL_9 (779, .iload_n 3, 1) (mg 39 rfl)) rfl rfl ?_
          refine X_iconst (v := nI (1)) C (dtL_9 (780, .iconst 1, 1) (mg 40 rfl)) (by decide) ?_
          refine X_iadd C (dtL_9 (781, .iadd, 1) (mg 41 rfl)) ?_
          refine X_ti (y := nI (i3 + 1)) (nI_add (i3) (1)) ?_
          refine X_sld (v := xs (i3 + 1)) C hSc (vp_in_nI (by omega) (by omega)) (dtL_9 (782, .iaload, 1) (mg 42 rfl)) (by rw [nI_clamp (by omega)]) ?_
          refine X_cV (As := [.int (xs (i3 + 1))]) (st := []) C (post := _) (m) (by omega) hM.2.1 rfl (ct_X8_forget hw hM (xs (i3 + 1)) H130 G131) kL_105 (by decide) (by decide) rfl rfl (Nat.le_of_ble_eq_true rfl) (dtL_9 (783, .invokevirtual 105, 3) (mg 43 rfl)) rfl (fun v135 H133 G134 hv135 => ?_)
          obtain ⟨⟨y2_, rfl⟩, hk2_⟩ := mKp_forget hMk hv135
          have hJ2_ := J_kk hxm hJ hk1_ hk2_
          show X k w _ 786 [some (.ref b), some (.ref (wA w (x))), some (.ref (wA w (m))), some (.int (nI (i3)))] [.int (y2_)] H133 G134
          refine X_pop C (dtL_9 (786, .pop, 1) (mg 44 rfl)) rfl ?_
          refine X_goto (tgt := 1076) C (dtL_9 (787, .goto 289, 3) (mg 45 rfl)) (by decide) ?_
          refine X_iinc (v := nI (i3 + 5)) (ls' := [some (.ref b), some (.ref (wA w (x))), some (.ref (wA w (m))), some (.int (nI (i3 + 5)))]) C (dtL_14 (1076, .iinc 3 5, 3) (mg 10 rfl)) rfl (nI_add (i3) 5) rfl ?_
          refine X_goto (tgt := 18) C (dtL_14 (1079, .goto (-1061), 3) (mg 11 rfl)) (by decide) ?_
          refine X_eq (ls' := [some (.ref b), some (.ref (wA w (x))), some (.ref (wA w (m))), some (.int (nI (i3 + 5)))]) (st' := []) (h' := H133) (g' := G134) rfl rfl rfl rfl ?_
          exact ih18 (i3 + 5) (H133) (G134) (by omega) hJ2_ (by omega)
        · refine X_swIn (tgt := 790) C (dtL_0 (32, .tableswitch 1044 0 33 #[152, 185, 208, 241, 264, 277, 290, 323, 346, 369, 392, 405, 438, 471, 504, 527, 560, 593, 646, 669, 692, 735, 758, 771, 784, 817, 850, 883, 916, 939, 962, 985, 1008, 1031], 152) (mg 21 rfl)) (22) (by rw [q2]; decide) (by decide) (by decide) rfl (by decide) ?_
          refine X_aload_n C 1 (dtL_9 (790, .aload_n 1, 1) (mg 46 rfl)) rfl rfl ?_
          refine X_cV (As := []) (st := []) C (post := _) (x) (by omega) hC.2.1 rfl (ct_X7_kinds hw hC  hp18 gp18 hJ.1) kL_106 (by decide) (by decide) rfl rfl (Nat.le_of_ble_eq_true rfl) (dtL_9 (791, .invokevirtual 106, 3) (mg 47 rfl)) rfl (fun v138 H136 G137 hv138 => ?_)
          obtain ⟨⟨y1_, rfl⟩, hw1_⟩ := hv138
          have hk1_ := cKp_w hJ.1 hw1_
          show X k w _ 794 [some (.ref b), some (.ref (wA w (x))), some (.ref (wA w (m))), some (.int (nI (i3)))] [.int (y1_)] H136 G137
          have hMk := J_1 hxm hJ hk1_
          obtain ⟨⟨⟨nu, hnu, eu⟩, ⟨c0, hc0, hat⟩, -⟩, ⟨⟨ms, hms, ese⟩, ⟨mm, hmm, ema⟩⟩, -, ⟨mt, hmt, etx⟩⟩ := id hMk
          refine X_pop C (dtL_9 (794, .pop, 1) (mg 48 rfl)) rfl ?_
          refine X_aload_n C 2 (dtL_9 (795, .aload_n 2, 1) (mg 49 rfl)) rfl rfl ?_
          refine X_cV (As := []) (st := []) C (post := _) (m) (by omega) hM.2.1 rfl (ct_X8_kinds hw hM  (n := mm) hmm H136 G137 ema) kL_109 (by decide) (by decide) rfl rfl (Nat.le_of_ble_eq_true rfl) (dtL_10 (796, .invokevirtual 109, 3) (mg 0 rfl)) rfl (fun v141 H139 G140 hv141 => ?_)
          obtain ⟨⟨y2_, rfl⟩, hk2_⟩ := mKp_kinds hMk hv141
          have hJ2_ := J_kk hxm hJ hk1_ hk2_
          show X k w _ 799 [some (.ref b), some (.ref (wA w (x))), some (.ref (wA w (m))), some (.int (nI (i3)))] [.int (y2_)] H139 G140
          refine X_pop C (dtL_10 (799, .pop, 1) (mg 1 rfl)) rfl ?_
          refine X_goto (tgt := 1076) C (dtL_10 (800, .goto 276, 3) (mg 2 rfl)) (by decide) ?_
          refine X_iinc (v := nI (i3 + 5)) (ls' := [some (.ref b), some (.ref (wA w (x))), some (.ref (wA w (m))), some (.int (nI (i3 + 5)))]) C (dtL_14 (1076, .iinc 3 5, 3) (mg 10 rfl)) rfl (nI_add (i3) 5) rfl ?_
          refine X_goto (tgt := 18) C (dtL_14 (1079, .goto (-1061), 3) (mg 11 rfl)) (by decide) ?_
          refine X_eq (ls' := [some (.ref b), some (.ref (wA w (x))), some (.ref (wA w (m))), some (.int (nI (i3 + 5)))]) (st' := []) (h' := H139) (g' := G140) rfl rfl rfl rfl ?_
          exact ih18 (i3 + 5) (H139) (G140) (by omega) hJ2_ (by omega)
        · refine X_swIn (tgt := 803) C (dtL_0 (32, .tableswitch 1044 0 33 #[152, 185, 208, 241, 264, 277, 290, 323, 346, 369, 392, 405, 438, 471, 504, 527, 560, 593, 646, 669, 692, 735, 758, 771, 784, 817, 850, 883, 916, 939, 962, 985, 1008, 1031], 152) (mg 21 rfl)) (23) (by rw [q2]; decide) (by decide) (by decide) rfl (by decide) ?_
          refine X_aload_n C 1 (dtL_10 (803, .aload_n 1, 1) (mg 3 rfl)) rfl rfl ?_
          refine X_cV (As := []) (st := []) C (post := _) (x) (by omega) hC.2.1 rfl (ct_X7_ask hw hC  hp18 gp18 hJ.1) kL_110 (by decide) (by decide) rfl rfl (Nat.le_of_ble_eq_true rfl) (dtL_10 (804, .invokevirtual 110, 3) (mg 4 rfl)) rfl (fun v144 H142 G143 hv144 => ?_)
          obtain ⟨⟨y1_, rfl⟩, hw1_⟩ := hv144
          have hk1_ := cKp_w hJ.1 hw1_
          show X k w _ 807 [some (.ref b), some (.ref (wA w (x))), some (.ref (wA w (m))), some (.int (nI (i3)))] [.int (y1_)] H142 G143
          have hMk := J_1 hxm hJ hk1_
          obtain ⟨⟨⟨nu, hnu, eu⟩, ⟨c0, hc0, hat⟩, -⟩, ⟨⟨ms, hms, ese⟩, ⟨mm, hmm, ema⟩⟩, -, ⟨mt, hmt, etx⟩⟩ := id hMk
          refine X_pop C (dtL_10 (807, .pop, 1) (mg 5 rfl)) rfl ?_
          refine X_aload_n C 2 (dtL_10 (808, .aload_n 2, 1) (mg 6 rfl)) rfl rfl ?_
          refine X_cV (As := []) (st := []) C (post := _) (m) (by omega) hM.2.1 rfl (ct_X8_ask hw hM  H142 G143 hMk) kL_113 (by decide) (by decide) rfl rfl (Nat.le_of_ble_eq_true rfl) (dtL_10 (809, .invokevirtual 113, 3) (mg 7 rfl)) rfl (fun v147 H145 G146 hv147 => ?_)
          obtain ⟨⟨y2_, rfl⟩, hw3_⟩ := hv147
          have hk2_ := mKp_w hMk hw3_
          have hJ2_ := J_kk hxm hJ hk1_ hk2_
          show X k w _ 812 [some (.ref b), some (.ref (wA w (x))), some (.ref (wA w (m))), some (.int (nI (i3)))] [.int (y2_)] H145 G146
          refine X_pop C (dtL_10 (812, .pop, 1) (mg 8 rfl)) rfl ?_
          refine X_goto (tgt := 1076) C (dtL_10 (813, .goto 263, 3) (mg 9 rfl)) (by decide) ?_
          refine X_iinc (v := nI (i3 + 5)) (ls' := [some (.ref b), some (.ref (wA w (x))), some (.ref (wA w (m))), some (.int (nI (i3 + 5)))]) C (dtL_14 (1076, .iinc 3 5, 3) (mg 10 rfl)) rfl (nI_add (i3) 5) rfl ?_
          refine X_goto (tgt := 18) C (dtL_14 (1079, .goto (-1061), 3) (mg 11 rfl)) (by decide) ?_
          refine X_eq (ls' := [some (.ref b), some (.ref (wA w (x))), some (.ref (wA w (m))), some (.int (nI (i3 + 5)))]) (st' := []) (h' := H145) (g' := G146) rfl rfl rfl rfl ?_
          exact ih18 (i3 + 5) (H145) (G146) (by omega) hJ2_ (by omega)
        · refine X_swIn (tgt := 816) C (dtL_0 (32, .tableswitch 1044 0 33 #[152, 185, 208, 241, 264, 277, 290, 323, 346, 369, 392, 405, 438, 471, 504, 527, 560, 593, 646, 669, 692, 735, 758, 771, 784, 817, 850, 883, 916, 939, 962, 985, 1008, 1031], 152) (mg 21 rfl)) (24) (by rw [q2]; decide) (by decide) (by decide) rfl (by decide) ?_
          refine X_aload_n C 1 (dtL_10 (816, .aload_n 1, 1) (mg 10 rfl)) rfl rfl ?_
          refine X_aload_n C 0 (dtL_10 (817, .aload_n 0, 1) (mg 11 rfl)) rfl rfl ?_
          refine X_iload_n C 3 (dtL_10 (818, .iload_n 3, 1) (mg 12 rfl)) rfl rfl ?_
          refine X_iconst (v := nI (1)) C (dtL_10 (819, .iconst 1, 1) (mg 13 rfl)) (by decide) ?_
          refine X_iadd C (dtL_10 (820, .iadd, 1) (mg 14 rfl)) ?_
          refine X_ti (y := nI (i3 + 1)) (nI_add (i3) (1)) ?_
          refine X_sld (v := xs (i3 + 1)) C hSc (vp_in_nI (by omega) (by omega)) (dtL_10 (821, .iaload, 1) (mg 15 rfl)) (by rw [nI_clamp (by omega)]) ?_
          refine X_aload_n C 0 (dtL_10 (822, .aload_n 0, 1) (mg 16 rfl)) rfl rfl ?_
          refine X_iload_n C 3 (dtL_10 (823, .iload_n 3, 1) (mg 17 rfl)) rfl rfl ?_
          refine X_iconst (v := nI (2)) C (dtL_10 (824, .iconst 2, 1) (mg 18 rfl)) (by decide) ?_
          refine X_iadd C (dtL_10 (825, .iadd, 1) (mg 19 rfl)) ?_
          refine X_ti (y := nI (i3 + 2)) (nI_add (i3) (2)) ?_
          refine X_sld (v := xs (i3 + 2)) C hSc (vp_in_nI (by omega) (by omega)) (dtL_10 (826, .iaload, 1) (mg 20 rfl)) (by rw [nI_clamp (by omega)]) ?_
          refine X_cV (As := [.int (xs (i3 + 1)), .int (xs (i3 + 2))]) (st := []) C (post := _) (x) (by omega) hC.2.1 rfl (ct_X7_deep hw hC (xs (i3 + 1)) (xs (i3 + 2)) hp18 gp18 hJ.1) kL_114 (by decide) (by decide) rfl rfl (Nat.le_of_ble_eq_true rfl) (dtL_10 (827, .invokevirtual 114, 3) (mg 21 rfl)) rfl (fun v150 H148 G149 hv150 => ?_)
          obtain ⟨⟨y1_, rfl⟩, hw1_⟩ := hv150
          have hk1_ := cKp_w hJ.1 hw1_
          show X k w _ 830 [some (.ref b), some (.ref (wA w (x))), some (.ref (wA w (m))), some (.int (nI (i3)))] [.int (y1_)] H148 G149
          have hMk := J_1 hxm hJ hk1_
          obtain ⟨⟨⟨nu, hnu, eu⟩, ⟨c0, hc0, hat⟩, -⟩, ⟨⟨ms, hms, ese⟩, ⟨mm, hmm, ema⟩⟩, -, ⟨mt, hmt, etx⟩⟩ := id hMk
          refine X_pop C (dtL_10 (830, .pop, 1) (mg 22 rfl)) rfl ?_
          refine X_aload_n C 2 (dtL_10 (831, .aload_n 2, 1) (mg 23 rfl)) rfl rfl ?_
          refine X_aload_n C 0 (dtL_10 (832, .aload_n 0, 1) (mg 24 rfl)) rfl rfl ?_
          refine X_iload_n C 3 (dtL_10 (833, .iload_n 3, 1) (mg 25 rfl)) rfl rfl ?_
          refine X_iconst (v := nI (1)) C (dtL_10 (834, .iconst 1, 1) (mg 26 rfl)) (by decide) ?_
          refine X_iadd C (dtL_10 (835, .iadd, 1) (mg 27 rfl)) ?_
          refine X_ti (y := nI (i3 + 1)) (nI_add (i3) (1)) ?_
          refine X_sld (v := xs (i3 + 1)) C hSc (vp_in_nI (by omega) (by omega)) (dtL_10 (836, .iaload, 1) (mg 28 rfl)) (by rw [nI_clamp (by omega)]) ?_
          refine X_aload_n C 0 (dtL_10 (837, .aload_n 0, 1) (mg 29 rfl)) rfl rfl ?_
          refine X_iload_n C 3 (dtL_10 (838, .iload_n 3, 1) (mg 30 rfl)) rfl rfl ?_
          refine X_iconst (v := nI (2)) C (dtL_10 (839, .iconst 2, 1) (mg 31 rfl)) (by decide) ?_
          refine X_iadd C (dtL_10 (840, .iadd, 1) (mg 32 rfl)) ?_
          refine X_ti (y := nI (i3 + 2)) (nI_add (i3) (2)) ?_
          refine X_sld (v := xs (i3 + 2)) C hSc (vp_in_nI (by omega) (by omega)) (dtL_10 (841, .iaload, 1) (mg 33 rfl)) (by rw [nI_clamp (by omega)]) ?_
          refine X_cV (As := [.int (xs (i3 + 1)), .int (xs (i3 + 2))]) (st := []) C (post := _) (m) (by omega) hM.2.1 rfl (ct_X8_deep hw hM (xs (i3 + 1)) (xs (i3 + 2)) H148 G149) kL_117 (by decide) (by decide) rfl rfl (Nat.le_of_ble_eq_true rfl) (dtL_10 (842, .invokevirtual 117, 3) (mg 34 rfl)) rfl (fun v153 H151 G152 hv153 => ?_)
          obtain ⟨⟨y2_, rfl⟩, hk2_⟩ := mKp_look hMk hv153
          have hJ2_ := J_kk hxm hJ hk1_ hk2_
          show X k w _ 845 [some (.ref b), some (.ref (wA w (x))), some (.ref (wA w (m))), some (.int (nI (i3)))] [.int (y2_)] H151 G152
          refine X_pop C (dtL_10 (845, .pop, 1) (mg 35 rfl)) rfl ?_
          refine X_goto (tgt := 1076) C (dtL_10 (846, .goto 230, 3) (mg 36 rfl)) (by decide) ?_
          refine X_iinc (v := nI (i3 + 5)) (ls' := [some (.ref b), some (.ref (wA w (x))), some (.ref (wA w (m))), some (.int (nI (i3 + 5)))]) C (dtL_14 (1076, .iinc 3 5, 3) (mg 10 rfl)) rfl (nI_add (i3) 5) rfl ?_
          refine X_goto (tgt := 18) C (dtL_14 (1079, .goto (-1061), 3) (mg 11 rfl)) (by decide) ?_
          refine X_eq (ls' := [some (.ref b), some (.ref (wA w (x))), some (.ref (wA w (m))), some (.int (nI (i3 + 5)))]) (st' := []) (h' := H151) (g' := G152) rfl rfl rfl rfl ?_
          exact ih18 (i3 + 5) (H151) (G152) (by omega) hJ2_ (by omega)
        · refine X_swIn (tgt := 849) C (dtL_0 (32, .tableswitch 1044 0 33 #[152, 185, 208, 241, 264, 277, 290, 323, 346, 369, 392, 405, 438, 471, 504, 527, 560, 593, 646, 669, 692, 735, 758, 771, 784, 817, 850, 883, 916, 939, 962, 985, 1008, 1031], 152) (mg 21 rfl)) (25) (by rw [q2]; decide) (by decide) (by decide) rfl (by decide) ?_
          refine X_aload_n C 1 (dtL_10 (849, .aload_n 1, 1) (mg 37 rfl)) rfl rfl ?_
          refine X_aload_n C 0 (dtL_10 (850, .aload_n 0, 1) (mg 38 rfl)) rfl rfl ?_
          refine X_iload_n C 3 (dtL_10 (851, .iload_n 3, 1) (mg 39 rfl)) rfl rfl ?_
          refine X_iconst (v := nI (1)) C (dtL_10 (852, .iconst 1, 1) (mg 40 rfl)) (by decide) ?_
          refine X_iadd C (dtL_10 (853, .iadd, 1) (mg 41 rfl)) ?_
          refine X_ti (y := nI (i3 + 1)) (nI_add (i3) (1)) ?_
          refine X_sld (v := xs (i3 + 1)) C hSc (vp_in_nI (by omega) (by omega)) (dtL_10 (854, .iaload, 1) (mg 42 rfl)) (by rw [nI_clamp (by omega)]) ?_
          refine X_aload_n C 0 (dtL_10 (855, .aload_n 0, 1) (mg 43 rfl)) rfl rfl ?_
          refine X_iload_n C 3 (dtL_10 (856, .iload_n 3, 1) (mg 44 rfl)) rfl rfl ?_
          refine X_iconst (v := nI (2)) C (dtL_10 (857, .iconst 2, 1) (mg 45 rfl)) (by decide) ?_
          refine X_iadd C (dtL_10 (858, .iadd, 1) (mg 46 rfl)) ?_
          refine X_ti (y := nI (i3 + 2)) (nI_add (i3) (2)) ?_
          refine X_sld (v := xs (i3 + 2)) C hSc (vp_in_nI (by omega) (by omega)) (dtL_10 (859, .iaload, 1) (mg 47 rfl)) (by rw [nI_clamp (by omega)]) ?_
          refine X_cV (As := [.int (xs (i3 + 1)), .int (xs (i3 + 2))]) (st := []) C (post := _) (x) (by omega) hC.2.1 rfl (ct_X7_sparrow hw hC (xs (i3 + 1)) (xs (i3 + 2)) hp18 gp18 hJ.1) kL_118 (by decide) (by decide) rfl rfl (Nat.le_of_ble_eq_true rfl) (dtL_10 (860, .invokevirtual 118, 3) (mg 48 rfl)) rfl (fun v156 H154 G155 hv156 => ?_)
          obtain ⟨⟨y1_, rfl⟩, hw1_⟩ := hv156
          have hk1_ := cKp_w hJ.1 hw1_
          show X k w _ 863 [some (.ref b), some (.ref (wA w (x))), some (.ref (wA w (m))), some (.int (nI (i3)))] [.int (y1_)] H154 G155
          have hMk := J_1 hxm hJ hk1_
          obtain ⟨⟨⟨nu, hnu, eu⟩, ⟨c0, hc0, hat⟩, -⟩, ⟨⟨ms, hms, ese⟩, ⟨mm, hmm, ema⟩⟩, -, ⟨mt, hmt, etx⟩⟩ := id hMk
          refine X_pop C (dtL_10 (863, .pop, 1) (mg 49 rfl)) rfl ?_
          refine X_aload_n C 2 (dtL_11 (864, .aload_n 2, 1) (mg 0 rfl)) rfl rfl ?_
          refine X_aload_n C 0 (dtL_11 (865, .aload_n 0, 1) (mg 1 rfl)) rfl rfl ?_
          refine X_iload_n C 3 (dtL_11 (866, .iload_n 3, 1) (mg 2 rfl)) rfl rfl ?_
          refine X_iconst (v := nI (1)) C (dtL_11 (867, .iconst 1, 1) (mg 3 rfl)) (by decide) ?_
          refine X_iadd C (dtL_11 (868, .iadd, 1) (mg 4 rfl)) ?_
          refine X_ti (y := nI (i3 + 1)) (nI_add (i3) (1)) ?_
          refine X_sld (v := xs (i3 + 1)) C hSc (vp_in_nI (by omega) (by omega)) (dtL_11 (869, .iaload, 1) (mg 5 rfl)) (by rw [nI_clamp (by omega)]) ?_
          refine X_aload_n C 0 (dtL_11 (870, .aload_n 0, 1) (mg 6 rfl)) rfl rfl ?_
          refine X_iload_n C 3 (dtL_11 (871, .iload_n 3, 1) (mg 7 rfl)) rfl rfl ?_
          refine X_iconst (v := nI (2)) C (dtL_11 (872, .iconst 2, 1) (mg 8 rfl)) (by decide) ?_
          refine X_iadd C (dtL_11 (873, .iadd, 1) (mg 9 rfl)) ?_
          refine X_ti (y := nI (i3 + 2)) (nI_add (i3) (2)) ?_
          refine X_sld (v := xs (i3 + 2)) C hSc (vp_in_nI (by omega) (by omega)) (dtL_11 (874, .iaload, 1) (mg 10 rfl)) (by rw [nI_clamp (by omega)]) ?_
          refine X_cV (As := [.int (xs (i3 + 1)), .int (xs (i3 + 2))]) (st := []) C (post := _) (m) (by omega) hM.2.1 rfl (ct_X8_sparrow hw hM (xs (i3 + 1)) (xs (i3 + 2)) H154 G155 hMk) kL_121 (by decide) (by decide) rfl rfl (Nat.le_of_ble_eq_true rfl) (dtL_11 (875, .invokevirtual 121, 3) (mg 11 rfl)) rfl (fun v159 H157 G158 hv159 => ?_)
          obtain ⟨⟨y2_, rfl⟩, hw3_⟩ := hv159
          have hk2_ := mKp_w hMk hw3_
          have hJ2_ := J_kk hxm hJ hk1_ hk2_
          show X k w _ 878 [some (.ref b), some (.ref (wA w (x))), some (.ref (wA w (m))), some (.int (nI (i3)))] [.int (y2_)] H157 G158
          refine X_pop C (dtL_11 (878, .pop, 1) (mg 12 rfl)) rfl ?_
          refine X_goto (tgt := 1076) C (dtL_11 (879, .goto 197, 3) (mg 13 rfl)) (by decide) ?_
          refine X_iinc (v := nI (i3 + 5)) (ls' := [some (.ref b), some (.ref (wA w (x))), some (.ref (wA w (m))), some (.int (nI (i3 + 5)))]) C (dtL_14 (1076, .iinc 3 5, 3) (mg 10 rfl)) rfl (nI_add (i3) 5) rfl ?_
          refine X_goto (tgt := 18) C (dtL_14 (1079, .goto (-1061), 3) (mg 11 rfl)) (by decide) ?_
          refine X_eq (ls' := [some (.ref b), some (.ref (wA w (x))), some (.ref (wA w (m))), some (.int (nI (i3 + 5)))]) (st' := []) (h' := H157) (g' := G158) rfl rfl rfl rfl ?_
          exact ih18 (i3 + 5) (H157) (G158) (by omega) hJ2_ (by omega)
        · refine X_swIn (tgt := 882) C (dtL_0 (32, .tableswitch 1044 0 33 #[152, 185, 208, 241, 264, 277, 290, 323, 346, 369, 392, 405, 438, 471, 504, 527, 560, 593, 646, 669, 692, 735, 758, 771, 784, 817, 850, 883, 916, 939, 962, 985, 1008, 1031], 152) (mg 21 rfl)) (26) (by rw [q2]; decide) (by decide) (by decide) rfl (by decide) ?_
          refine X_aload_n C 1 (dtL_11 (882, .aload_n 1, 1) (mg 14 rfl)) rfl rfl ?_
          refine X_aload_n C 0 (dtL_11 (883, .aload_n 0, 1) (mg 15 rfl)) rfl rfl ?_
          refine X_iload_n C 3 (dtL_11 (884, .iload_n 3, 1) (mg 16 rfl)) rfl rfl ?_
          refine X_iconst (v := nI (1)) C (dtL_11 (885, .iconst 1, 1) (mg 17 rfl)) (by decide) ?_
          refine X_iadd C (dtL_11 (886, .iadd, 1) (mg 18 rfl)) ?_
          refine X_ti (y := nI (i3 + 1)) (nI_add (i3) (1)) ?_
          refine X_sld (v := xs (i3 + 1)) C hSc (vp_in_nI (by omega) (by omega)) (dtL_11 (887, .iaload, 1) (mg 19 rfl)) (by rw [nI_clamp (by omega)]) ?_
          refine X_aload_n C 0 (dtL_11 (888, .aload_n 0, 1) (mg 20 rfl)) rfl rfl ?_
          refine X_iload_n C 3 (dtL_11 (889, .iload_n 3, 1) (mg 21 rfl)) rfl rfl ?_
          refine X_iconst (v := nI (2)) C (dtL_11 (890, .iconst 2, 1) (mg 22 rfl)) (by decide) ?_
          refine X_iadd C (dtL_11 (891, .iadd, 1) (mg 23 rfl)) ?_
          refine X_ti (y := nI (i3 + 2)) (nI_add (i3) (2)) ?_
          refine X_sld (v := xs (i3 + 2)) C hSc (vp_in_nI (by omega) (by omega)) (dtL_11 (892, .iaload, 1) (mg 24 rfl)) (by rw [nI_clamp (by omega)]) ?_
          refine X_cV (As := [.int (xs (i3 + 1)), .int (xs (i3 + 2))]) (st := []) C (post := _) (x) (by omega) hC.2.1 rfl (ct_X7_frost hw hC (xs (i3 + 1)) (xs (i3 + 2)) hp18 gp18 hJ.1) kL_122 (by decide) (by decide) rfl rfl (Nat.le_of_ble_eq_true rfl) (dtL_11 (893, .invokevirtual 122, 3) (mg 25 rfl)) rfl (fun v162 H160 G161 hv162 => ?_)
          have hv1_ := hv162
          obtain ⟨⟨y1_, rfl⟩, hw1_⟩ := pQa_w hv1_
          have hk1_ := cKp_w hJ.1 hw1_
          show X k w _ 896 [some (.ref b), some (.ref (wA w (x))), some (.ref (wA w (m))), some (.int (nI (i3)))] [.int (y1_)] H160 G161
          have hMk := J_1 hxm hJ hk1_
          obtain ⟨⟨⟨nu, hnu, eu⟩, ⟨c0, hc0, hat⟩, -⟩, ⟨⟨ms, hms, ese⟩, ⟨mm, hmm, ema⟩⟩, -, ⟨mt, hmt, etx⟩⟩ := id hMk
          refine X_pop C (dtL_11 (896, .pop, 1) (mg 26 rfl)) rfl ?_
          refine X_aload_n C 2 (dtL_11 (897, .aload_n 2, 1) (mg 27 rfl)) rfl rfl ?_
          refine X_aload_n C 0 (dtL_11 (898, .aload_n 0, 1) (mg 28 rfl)) rfl rfl ?_
          refine X_iload_n C 3 (dtL_11 (899, .iload_n 3, 1) (mg 29 rfl)) rfl rfl ?_
          refine X_iconst (v := nI (1)) C (dtL_11 (900, .iconst 1, 1) (mg 30 rfl)) (by decide) ?_
          refine X_iadd C (dtL_11 (901, .iadd, 1) (mg 31 rfl)) ?_
          refine X_ti (y := nI (i3 + 1)) (nI_add (i3) (1)) ?_
          refine X_sld (v := xs (i3 + 1)) C hSc (vp_in_nI (by omega) (by omega)) (dtL_11 (902, .iaload, 1) (mg 32 rfl)) (by rw [nI_clamp (by omega)]) ?_
          refine X_aload_n C 0 (dtL_11 (903, .aload_n 0, 1) (mg 33 rfl)) rfl rfl ?_
          refine X_iload_n C 3 (dtL_11 (904, .iload_n 3, 1) (mg 34 rfl)) rfl rfl ?_
          refine X_iconst (v := nI (2)) C (dtL_11 (905, .iconst 2, 1) (mg 35 rfl)) (by decide) ?_
          refine X_iadd C (dtL_11 (906, .iadd, 1) (mg 36 rfl)) ?_
          refine X_ti (y := nI (i3 + 2)) (nI_add (i3) (2)) ?_
          refine X_sld (v := xs (i3 + 2)) C hSc (vp_in_nI (by omega) (by omega)) (dtL_11 (907, .iaload, 1) (mg 37 rfl)) (by rw [nI_clamp (by omega)]) ?_
          refine X_cV (As := [.int (xs (i3 + 1)), .int (xs (i3 + 2))]) (st := []) C (post := _) (m) (by omega) hM.2.1 rfl (ct_X8_frost hw hM (xs (i3 + 1)) (xs (i3 + 2)) H160 G161 hMk) kL_125 (by decide) (by decide) rfl rfl (Nat.le_of_ble_eq_true rfl) (dtL_11 (908, .invokevirtual 125, 3) (mg 38 rfl)) rfl (fun v165 H163 G164 hv165 => ?_)
          have hv2_ := hv165
          have hvv_ := pQa_e hv1_ hv2_
          obtain ⟨⟨y2_, rfl⟩, hw3_⟩ := pQa_w hv2_
          have hk2_ := mKp_w hMk hw3_
          have heq_ : y1_ = y2_ := by injection hvv_ with z; injection z
          have hJ2_ := J_kk hxm hJ hk1_ hk2_
          show X k w _ 911 [some (.ref b), some (.ref (wA w (x))), some (.ref (wA w (m))), some (.int (nI (i3)))] [.int (y2_)] H163 G164
          refine X_pop C (dtL_11 (911, .pop, 1) (mg 39 rfl)) rfl ?_
          refine X_goto (tgt := 1076) C (dtL_11 (912, .goto 164, 3) (mg 40 rfl)) (by decide) ?_
          refine X_iinc (v := nI (i3 + 5)) (ls' := [some (.ref b), some (.ref (wA w (x))), some (.ref (wA w (m))), some (.int (nI (i3 + 5)))]) C (dtL_14 (1076, .iinc 3 5, 3) (mg 10 rfl)) rfl (nI_add (i3) 5) rfl ?_
          refine X_goto (tgt := 18) C (dtL_14 (1079, .goto (-1061), 3) (mg 11 rfl)) (by decide) ?_
          refine X_eq (ls' := [some (.ref b), some (.ref (wA w (x))), some (.ref (wA w (m))), some (.int (nI (i3 + 5)))]) (st' := []) (h' := H163) (g' := G164) rfl rfl rfl rfl ?_
          exact ih18 (i3 + 5) (H163) (G164) (by omega) hJ2_ (by omega)
        · refine X_swIn (tgt := 915) C (dtL_0 (32, .tableswitch 1044 0 33 #[152, 185, 208, 241, 264, 277, 290, 323, 346, 369, 392, 405, 438, 471, 504, 527, 560, 593, 646, 669, 692, 735, 758, 771, 784, 817, 850, 883, 916, 939, 962, 985, 1008, 1031], 152) (mg 21 rfl)) (27) (by rw [q2]; decide) (by decide) (by decide) rfl (by decide) ?_
          refine X_aload_n C 1 (dtL_11 (915, .aload_n 1, 1) (mg 41 rfl)) rfl rfl ?_
          refine X_aload_n C 0 (dtL_11 (916, .aload_n 0, 1) (mg 42 rfl)) rfl rfl ?_
          refine X_iload_n C 3 (dtL_11 (917, .iload_n 3, 1) (mg 43 rfl)) rfl rfl ?_
          refine X_iconst (v := nI (1)) C (dtL_11 (918, .iconst 1, 1) (mg 44 rfl)) (by decide) ?_
          refine X_iadd C (dtL_11 (919, .iadd, 1) (mg 45 rfl)) ?_
          refine X_ti (y := nI (i3 + 1)) (nI_add (i3) (1)) ?_
          refine X_sld (v := xs (i3 + 1)) C hSc (vp_in_nI (by omega) (by omega)) (dtL_11 (920, .iaload, 1) (mg 46 rfl)) (by rw [nI_clamp (by omega)]) ?_
          refine X_aload_n C 0 (dtL_11 (921, .aload_n 0, 1) (mg 47 rfl)) rfl rfl ?_
          refine X_iload_n C 3 (dtL_11 (922, .iload_n 3, 1) (mg 48 rfl)) rfl rfl ?_
          refine X_iconst (v := nI (2)) C (dtL_11 (923, .iconst 2, 1) (mg 49 rfl)) (by decide) ?_
          refine X_iadd C (dtL_12 (924, .iadd, 1) (mg 0 rfl)) ?_
          refine X_ti (y := nI (i3 + 2)) (nI_add (i3) (2)) ?_
          refine X_sld (v := xs (i3 + 2)) C hSc (vp_in_nI (by omega) (by omega)) (dtL_12 (925, .iaload, 1) (mg 1 rfl)) (by rw [nI_clamp (by omega)]) ?_
          refine X_cV (As := [.int (xs (i3 + 1)), .int (xs (i3 + 2))]) (st := []) C (post := _) (x) (by omega) hC.2.1 rfl (ct_X7_years hw hC (xs (i3 + 1)) (xs (i3 + 2)) hp18 gp18 hJ.1) kL_126 (by decide) (by decide) rfl rfl (Nat.le_of_ble_eq_true rfl) (dtL_12 (926, .invokevirtual 126, 3) (mg 2 rfl)) rfl (fun v168 H166 G167 hv168 => ?_)
          obtain ⟨⟨y1_, rfl⟩, hw1_⟩ := hv168
          have hk1_ := cKp_w hJ.1 hw1_
          show X k w _ 929 [some (.ref b), some (.ref (wA w (x))), some (.ref (wA w (m))), some (.int (nI (i3)))] [.int (y1_)] H166 G167
          have hMk := J_1 hxm hJ hk1_
          obtain ⟨⟨⟨nu, hnu, eu⟩, ⟨c0, hc0, hat⟩, -⟩, ⟨⟨ms, hms, ese⟩, ⟨mm, hmm, ema⟩⟩, -, ⟨mt, hmt, etx⟩⟩ := id hMk
          refine X_pop C (dtL_12 (929, .pop, 1) (mg 3 rfl)) rfl ?_
          refine X_aload_n C 2 (dtL_12 (930, .aload_n 2, 1) (mg 4 rfl)) rfl rfl ?_
          refine X_aload_n C 0 (dtL_12 (931, .aload_n 0, 1) (mg 5 rfl)) rfl rfl ?_
          refine X_iload_n C 3 (dtL_12 (932, .iload_n 3, 1) (mg 6 rfl)) rfl rfl ?_
          refine X_iconst (v := nI (1)) C (dtL_12 (933, .iconst 1, 1) (mg 7 rfl)) (by decide) ?_
          refine X_iadd C (dtL_12 (934, .iadd, 1) (mg 8 rfl)) ?_
          refine X_ti (y := nI (i3 + 1)) (nI_add (i3) (1)) ?_
          refine X_sld (v := xs (i3 + 1)) C hSc (vp_in_nI (by omega) (by omega)) (dtL_12 (935, .iaload, 1) (mg 9 rfl)) (by rw [nI_clamp (by omega)]) ?_
          refine X_aload_n C 0 (dtL_12 (936, .aload_n 0, 1) (mg 10 rfl)) rfl rfl ?_
          refine X_iload_n C 3 (dtL_12 (937, .iload_n 3, 1) (mg 11 rfl)) rfl rfl ?_
          refine X_iconst (v := nI (2)) C (dtL_12 (938, .iconst 2, 1) (mg 12 rfl)) (by decide) ?_
          refine X_iadd C (dtL_12 (939, .iadd, 1) (mg 13 rfl)) ?_
          refine X_ti (y := nI (i3 + 2)) (nI_add (i3) (2)) ?_
          refine X_sld (v := xs (i3 + 2)) C hSc (vp_in_nI (by omega) (by omega)) (dtL_12 (940, .iaload, 1) (mg 14 rfl)) (by rw [nI_clamp (by omega)]) ?_
          refine X_cV (As := [.int (xs (i3 + 1)), .int (xs (i3 + 2))]) (st := []) C (post := _) (m) (by omega) hM.2.1 rfl (ct_X8_years hw hM (xs (i3 + 1)) (xs (i3 + 2)) H166 G167 hMk) kL_129 (by decide) (by decide) rfl rfl (Nat.le_of_ble_eq_true rfl) (dtL_12 (941, .invokevirtual 129, 3) (mg 15 rfl)) rfl (fun v171 H169 G170 hv171 => ?_)
          obtain ⟨⟨y2_, rfl⟩, hw3_⟩ := hv171
          have hk2_ := mKp_w hMk hw3_
          have hJ2_ := J_kk hxm hJ hk1_ hk2_
          show X k w _ 944 [some (.ref b), some (.ref (wA w (x))), some (.ref (wA w (m))), some (.int (nI (i3)))] [.int (y2_)] H169 G170
          refine X_pop C (dtL_12 (944, .pop, 1) (mg 16 rfl)) rfl ?_
          refine X_goto (tgt := 1076) C (dtL_12 (945, .goto 131, 3) (mg 17 rfl)) (by decide) ?_
          refine X_iinc (v := nI (i3 + 5)) (ls' := [some (.ref b), some (.ref (wA w (x))), some (.ref (wA w (m))), some (.int (nI (i3 + 5)))]) C (dtL_14 (1076, .iinc 3 5, 3) (mg 10 rfl)) rfl (nI_add (i3) 5) rfl ?_
          refine X_goto (tgt := 18) C (dtL_14 (1079, .goto (-1061), 3) (mg 11 rfl)) (by decide) ?_
          refine X_eq (ls' := [some (.ref b), some (.ref (wA w (x))), some (.ref (wA w (m))), some (.int (nI (i3 + 5)))]) (st' := []) (h' := H169) (g' := G170) rfl rfl rfl rfl ?_
          exact ih18 (i3 + 5) (H169) (G170) (by omega) hJ2_ (by omega)
        · refine X_swIn (tgt := 948) C (dtL_0 (32, .tableswitch 1044 0 33 #[152, 185, 208, 241, 264, 277, 290, 323, 346, 369, 392, 405, 438, 471, 504, 527, 560, 593, 646, 669, 692, 735, 758, 771, 784, 817, 850, 883, 916, 939, 962, 985, 1008, 1031], 152) (mg 21 rfl)) (28) (by rw [q2]; decide) (by decide) (by decide) rfl (by decide) ?_
          refine X_aload_n C 1 (dtL_12 (948, .aload_n 1, 1) (mg 18 rfl)) rfl rfl ?_
          refine X_aload_n C 0 (dtL_12 (949, .aload_n 0, 1) (mg 19 rfl)) rfl rfl ?_
          refine X_iload_n C 3 (dtL_12 (950, .iload_n 3, 1) (mg 20 rfl)) rfl rfl ?_
          refine X_iconst (v := nI (1)) C (dtL_12 (951, .iconst 1, 1) (mg 21 rfl)) (by decide) ?_
          refine X_iadd C (dtL_12 (952, .iadd, 1) (mg 22 rfl)) ?_
          refine X_ti (y := nI (i3 + 1)) (nI_add (i3) (1)) ?_
          refine X_sld (v := xs (i3 + 1)) C hSc (vp_in_nI (by omega) (by omega)) (dtL_12 (953, .iaload, 1) (mg 23 rfl)) (by rw [nI_clamp (by omega)]) ?_
          refine X_cV (As := [.int (xs (i3 + 1))]) (st := []) C (post := _) (x) (by omega) hC.2.1 rfl (ct_X7_part hw hC (xs (i3 + 1)) hp18 gp18 hJ.1) kL_130 (by decide) (by decide) rfl rfl (Nat.le_of_ble_eq_true rfl) (dtL_12 (954, .invokevirtual 130, 3) (mg 24 rfl)) rfl (fun v174 H172 G173 hv174 => ?_)
          obtain ⟨⟨y1_, rfl⟩, hw1_⟩ := hv174
          have hk1_ := cKp_w hJ.1 hw1_
          show X k w _ 957 [some (.ref b), some (.ref (wA w (x))), some (.ref (wA w (m))), some (.int (nI (i3)))] [.long (y1_)] H172 G173
          have hMk := J_1 hxm hJ hk1_
          obtain ⟨⟨⟨nu, hnu, eu⟩, ⟨c0, hc0, hat⟩, -⟩, ⟨⟨ms, hms, ese⟩, ⟨mm, hmm, ema⟩⟩, -, ⟨mt, hmt, etx⟩⟩ := id hMk
          refine X_pop2 C (dtL_12 (957, .pop2, 1) (mg 25 rfl)) rfl ?_
          refine X_aload_n C 2 (dtL_12 (958, .aload_n 2, 1) (mg 26 rfl)) rfl rfl ?_
          refine X_aload_n C 0 (dtL_12 (959, .aload_n 0, 1) (mg 27 rfl)) rfl rfl ?_
          refine X_iload_n C 3 (dtL_12 (960, .iload_n 3, 1) (mg 28 rfl)) rfl rfl ?_
          refine X_iconst (v := nI (1)) C (dtL_12 (961, .iconst 1, 1) (mg 29 rfl)) (by decide) ?_
          refine X_iadd C (dtL_12 (962, .iadd, 1) (mg 30 rfl)) ?_
          refine X_ti (y := nI (i3 + 1)) (nI_add (i3) (1)) ?_
          refine X_sld (v := xs (i3 + 1)) C hSc (vp_in_nI (by omega) (by omega)) (dtL_12 (963, .iaload, 1) (mg 31 rfl)) (by rw [nI_clamp (by omega)]) ?_
          refine X_cV (As := [.int (xs (i3 + 1))]) (st := []) C (post := _) (m) (by omega) hM.2.1 rfl (ct_X8_part hw hM (xs (i3 + 1)) H172 G173) kL_134 (by decide) (by decide) rfl rfl (Nat.le_of_ble_eq_true rfl) (dtL_12 (964, .invokevirtual 134, 3) (mg 32 rfl)) rfl (fun v177 H175 G176 hv177 => ?_)
          obtain ⟨⟨y2_, rfl⟩, hk2_⟩ := mKp_part hMk hv177
          have hJ2_ := J_kk hxm hJ hk1_ hk2_
          show X k w _ 967 [some (.ref b), some (.ref (wA w (x))), some (.ref (wA w (m))), some (.int (nI (i3)))] [.long (y2_)] H175 G176
          refine X_pop2 C (dtL_12 (967, .pop2, 1) (mg 33 rfl)) rfl ?_
          refine X_goto (tgt := 1076) C (dtL_12 (968, .goto 108, 3) (mg 34 rfl)) (by decide) ?_
          refine X_iinc (v := nI (i3 + 5)) (ls' := [some (.ref b), some (.ref (wA w (x))), some (.ref (wA w (m))), some (.int (nI (i3 + 5)))]) C (dtL_14 (1076, .iinc 3 5, 3) (mg 10 rfl)) rfl (nI_add (i3) 5) rfl ?_
          refine X_goto (tgt := 18) C (dtL_14 (1079, .goto (-1061), 3) (mg 11 rfl)) (by decide) ?_
          refine X_eq (ls' := [some (.ref b), some (.ref (wA w (x))), some (.ref (wA w (m))), some (.int (nI (i3 + 5)))]) (st' := []) (h' := H175) (g' := G176) rfl rfl rfl rfl ?_
          exact ih18 (i3 + 5) (H175) (G176) (by omega) hJ2_ (by omega)
        · refine X_swIn (tgt := 971) C (dtL_0 (32, .tableswitch 1044 0 33 #[152, 185, 208, 241, 264, 277, 290, 323, 346, 369, 392, 405, 438, 471, 504, 527, 560, 593, 646, 669, 692, 735, 758, 771, 784, 817, 850, 883, 916, 939, 962, 985, 1008, 1031], 152) (mg 21 rfl)) (29) (by rw [q2]; decide) (by decide) (by decide) rfl (by decide) ?_
          refine X_aload_n C 1 (dtL_12 (971, .aload_n 1, 1) (mg 35 rfl)) rfl rfl ?_
          refine X_aload_n C 0 (dtL_12 (972, .aload_n 0, 1) (mg 36 rfl)) rfl rfl ?_
          refine X_iload_n C 3 (dtL_12 (973, .iload_n 3, 1) (mg 37 rfl)) rfl rfl ?_
          refine X_iconst (v := nI (1)) C (dtL_12 (974, .iconst 1, 1) (mg 38 rfl)) (by decide) ?_
          refine X_iadd C (dtL_12 (975, .iadd, 1) (mg 39 rfl)) ?_
          refine X_ti (y := nI (i3 + 1)) (nI_add (i3) (1)) ?_
          refine X_sld (v := xs (i3 + 1)) C hSc (vp_in_nI (by omega) (by omega)) (dtL_12 (976, .iaload, 1) (mg 40 rfl)) (by rw [nI_clamp (by omega)]) ?_
          refine X_cV (As := [.int (xs (i3 + 1))]) (st := []) C (post := _) (x) (by omega) hC.2.1 rfl (ct_X7_image hw hC (xs (i3 + 1)) hp18 gp18) kL_135 (by decide) (by decide) rfl rfl (Nat.le_of_ble_eq_true rfl) (dtL_12 (977, .invokevirtual 135, 3) (mg 41 rfl)) rfl (fun v180 H178 G179 hv180 => ?_)
          have hv1_ := hv180
          obtain ⟨y1_, rfl⟩ := imC_i (x := x) (a := xs (i3 + 1)) hv1_
          show X k w _ 980 [some (.ref b), some (.ref (wA w (x))), some (.ref (wA w (m))), some (.int (nI (i3)))] [.int (y1_)] H178 G179
          refine X_pop C (dtL_12 (980, .pop, 1) (mg 42 rfl)) rfl ?_
          refine X_aload_n C 2 (dtL_12 (981, .aload_n 2, 1) (mg 43 rfl)) rfl rfl ?_
          refine X_aload_n C 0 (dtL_12 (982, .aload_n 0, 1) (mg 44 rfl)) rfl rfl ?_
          refine X_iload_n C 3 (dtL_12 (983, .iload_n 3, 1) (mg 45 rfl)) rfl rfl ?_
          refine X_iconst (v := nI (1)) C (dtL_12 (984, .iconst 1, 1) (mg 46 rfl)) (by decide) ?_
          refine X_iadd C (dtL_12 (985, .iadd, 1) (mg 47 rfl)) ?_
          refine X_ti (y := nI (i3 + 1)) (nI_add (i3) (1)) ?_
          refine X_sld (v := xs (i3 + 1)) C hSc (vp_in_nI (by omega) (by omega)) (dtL_12 (986, .iaload, 1) (mg 48 rfl)) (by rw [nI_clamp (by omega)]) ?_
          refine X_cV (As := [.int (xs (i3 + 1))]) (st := []) C (post := _) (m) (by omega) hM.2.1 rfl (ct_X8_image hw hM (xs (i3 + 1)) H178 G179) kL_138 (by decide) (by decide) rfl rfl (Nat.le_of_ble_eq_true rfl) (dtL_12 (987, .invokevirtual 138, 3) (mg 49 rfl)) rfl (fun v183 H181 G182 hv183 => ?_)
          have hv2_ := hv183
          obtain ⟨y2_, rfl⟩ := imM_i (m := m) (a := xs (i3 + 1)) hv2_
          obtain ⟨hJ2_, hvv_⟩ := J_image (a := xs (i3 + 1)) hxm hJ hv1_ hv2_
          have heq_ : y1_ = y2_ := by injection hvv_ with z; injection z
          show X k w _ 990 [some (.ref b), some (.ref (wA w (x))), some (.ref (wA w (m))), some (.int (nI (i3)))] [.int (y2_)] H181 G182
          refine X_pop C (dtL_13 (990, .pop, 1) (mg 0 rfl)) rfl ?_
          refine X_goto (tgt := 1076) C (dtL_13 (991, .goto 85, 3) (mg 1 rfl)) (by decide) ?_
          refine X_iinc (v := nI (i3 + 5)) (ls' := [some (.ref b), some (.ref (wA w (x))), some (.ref (wA w (m))), some (.int (nI (i3 + 5)))]) C (dtL_14 (1076, .iinc 3 5, 3) (mg 10 rfl)) rfl (nI_add (i3) 5) rfl ?_
          refine X_goto (tgt := 18) C (dtL_14 (1079, .goto (-1061), 3) (mg 11 rfl)) (by decide) ?_
          refine X_eq (ls' := [some (.ref b), some (.ref (wA w (x))), some (.ref (wA w (m))), some (.int (nI (i3 + 5)))]) (st' := []) (h' := H181) (g' := G182) rfl rfl rfl rfl ?_
          exact ih18 (i3 + 5) (H181) (G182) (by omega) hJ2_ (by omega)
        · refine X_swIn (tgt := 994) C (dtL_0 (32, .tableswitch 1044 0 33 #[152, 185, 208, 241, 264, 277, 290, 323, 346, 369, 392, 405, 438, 471, 504, 527, 560, 593, 646, 669, 692, 735, 758, 771, 784, 817, 850, 883, 916, 939, 962, 985, 1008, 1031], 152) (mg 21 rfl)) (30) (by rw [q2]; decide) (by decide) (by decide) rfl (by decide) ?_
          refine X_aload_n C 1 (dtL_13 (994, .aload_n 1, 1) (mg 2 rfl)) rfl rfl ?_
          refine X_aload_n C 0 (dtL_13 (995, .aload_n 0, 1) (mg 3 rfl)) rfl rfl ?_
          refine X_iload_n C 3 (dtL_13 (996, .iload_n 3, 1) (mg 4 rfl)) rfl rfl ?_
          refine X_iconst (v := nI (1)) C (dtL_13 (997, .iconst 1, 1) (mg 5 rfl)) (by decide) ?_
          refine X_iadd C (dtL_13 (998, .iadd, 1) (mg 6 rfl)) ?_
          refine X_ti (y := nI (i3 + 1)) (nI_add (i3) (1)) ?_
          refine X_sld (v := xs (i3 + 1)) C hSc (vp_in_nI (by omega) (by omega)) (dtL_13 (999, .iaload, 1) (mg 7 rfl)) (by rw [nI_clamp (by omega)]) ?_
          refine X_cV (As := [.int (xs (i3 + 1))]) (st := []) C (post := _) (x) (by omega) hC.2.1 rfl (ct_X7_from hw hC (xs (i3 + 1)) hp18 gp18) kL_139 (by decide) (by decide) rfl rfl (Nat.le_of_ble_eq_true rfl) (dtL_13 (1000, .invokevirtual 139, 3) (mg 8 rfl)) rfl (fun v186 H184 G185 hv186 => ?_)
          have hv1_ := hv186
          obtain ⟨y1_, rfl⟩ := frC_i (x := x) (a := xs (i3 + 1)) hv1_
          show X k w _ 1003 [some (.ref b), some (.ref (wA w (x))), some (.ref (wA w (m))), some (.int (nI (i3)))] [.int (y1_)] H184 G185
          refine X_pop C (dtL_13 (1003, .pop, 1) (mg 9 rfl)) rfl ?_
          refine X_aload_n C 2 (dtL_13 (1004, .aload_n 2, 1) (mg 10 rfl)) rfl rfl ?_
          refine X_aload_n C 0 (dtL_13 (1005, .aload_n 0, 1) (mg 11 rfl)) rfl rfl ?_
          refine X_iload_n C 3 (dtL_13 (1006, .iload_n 3, 1) (mg 12 rfl)) rfl rfl ?_
          refine X_iconst (v := nI (1)) C (dtL_13 (1007, .iconst 1, 1) (mg 13 rfl)) (by decide) ?_
          refine X_iadd C (dtL_13 (1008, .iadd, 1) (mg 14 rfl)) ?_
          refine X_ti (y := nI (i3 + 1)) (nI_add (i3) (1)) ?_
          refine X_sld (v := xs (i3 + 1)) C hSc (vp_in_nI (by omega) (by omega)) (dtL_13 (1009, .iaload, 1) (mg 15 rfl)) (by rw [nI_clamp (by omega)]) ?_
          refine X_cV (As := [.int (xs (i3 + 1))]) (st := []) C (post := _) (m) (by omega) hM.2.1 rfl (ct_X8_from hw hM (xs (i3 + 1)) H184 G185) kL_142 (by decide) (by decide) rfl rfl (Nat.le_of_ble_eq_true rfl) (dtL_13 (1010, .invokevirtual 142, 3) (mg 16 rfl)) rfl (fun v189 H187 G188 hv189 => ?_)
          have hv2_ := hv189
          obtain ⟨y2_, rfl⟩ := frM_i (m := m) (a := xs (i3 + 1)) hv2_
          obtain ⟨hJ2_, hvv_⟩ := J_from (a := xs (i3 + 1)) hxm hJ hv1_ hv2_
          have heq_ : y1_ = y2_ := by injection hvv_ with z; injection z
          show X k w _ 1013 [some (.ref b), some (.ref (wA w (x))), some (.ref (wA w (m))), some (.int (nI (i3)))] [.int (y2_)] H187 G188
          refine X_pop C (dtL_13 (1013, .pop, 1) (mg 17 rfl)) rfl ?_
          refine X_goto (tgt := 1076) C (dtL_13 (1014, .goto 62, 3) (mg 18 rfl)) (by decide) ?_
          refine X_iinc (v := nI (i3 + 5)) (ls' := [some (.ref b), some (.ref (wA w (x))), some (.ref (wA w (m))), some (.int (nI (i3 + 5)))]) C (dtL_14 (1076, .iinc 3 5, 3) (mg 10 rfl)) rfl (nI_add (i3) 5) rfl ?_
          refine X_goto (tgt := 18) C (dtL_14 (1079, .goto (-1061), 3) (mg 11 rfl)) (by decide) ?_
          refine X_eq (ls' := [some (.ref b), some (.ref (wA w (x))), some (.ref (wA w (m))), some (.int (nI (i3 + 5)))]) (st' := []) (h' := H187) (g' := G188) rfl rfl rfl rfl ?_
          exact ih18 (i3 + 5) (H187) (G188) (by omega) hJ2_ (by omega)
        · refine X_swIn (tgt := 1017) C (dtL_0 (32, .tableswitch 1044 0 33 #[152, 185, 208, 241, 264, 277, 290, 323, 346, 369, 392, 405, 438, 471, 504, 527, 560, 593, 646, 669, 692, 735, 758, 771, 784, 817, 850, 883, 916, 939, 962, 985, 1008, 1031], 152) (mg 21 rfl)) (31) (by rw [q2]; decide) (by decide) (by decide) rfl (by decide) ?_
          refine X_aload_n C 1 (dtL_13 (1017, .aload_n 1, 1) (mg 19 rfl)) rfl rfl ?_
          refine X_aload_n C 0 (dtL_13 (1018, .aload_n 0, 1) (mg 20 rfl)) rfl rfl ?_
          refine X_iload_n C 3 (dtL_13 (1019, .iload_n 3, 1) (mg 21 rfl)) rfl rfl ?_
          refine X_iconst (v := nI (1)) C (dtL_13 (1020, .iconst 1, 1) (mg 22 rfl)) (by decide) ?_
          refine X_iadd C (dtL_13 (1021, .iadd, 1) (mg 23 rfl)) ?_
          refine X_ti (y := nI (i3 + 1)) (nI_add (i3) (1)) ?_
          refine X_sld (v := xs (i3 + 1)) C hSc (vp_in_nI (by omega) (by omega)) (dtL_13 (1022, .iaload, 1) (mg 24 rfl)) (by rw [nI_clamp (by omega)]) ?_
          refine X_cV (As := [.int (xs (i3 + 1))]) (st := []) C (post := _) (x) (by omega) hC.2.1 rfl (ct_X7_status hw hC (xs (i3 + 1)) hp18 gp18 hJ.1) kL_143 (by decide) (by decide) rfl rfl (Nat.le_of_ble_eq_true rfl) (dtL_13 (1023, .invokevirtual 143, 3) (mg 25 rfl)) rfl (fun v192 H190 G191 hv192 => ?_)
          obtain ⟨⟨y1_, rfl⟩, hw1_⟩ := hv192
          have hk1_ := cKp_w hJ.1 hw1_
          show X k w _ 1026 [some (.ref b), some (.ref (wA w (x))), some (.ref (wA w (m))), some (.int (nI (i3)))] [.int (y1_)] H190 G191
          have hMk := J_1 hxm hJ hk1_
          obtain ⟨⟨⟨nu, hnu, eu⟩, ⟨c0, hc0, hat⟩, -⟩, ⟨⟨ms, hms, ese⟩, ⟨mm, hmm, ema⟩⟩, -, ⟨mt, hmt, etx⟩⟩ := id hMk
          refine X_pop C (dtL_13 (1026, .pop, 1) (mg 26 rfl)) rfl ?_
          refine X_aload_n C 2 (dtL_13 (1027, .aload_n 2, 1) (mg 27 rfl)) rfl rfl ?_
          refine X_aload_n C 0 (dtL_13 (1028, .aload_n 0, 1) (mg 28 rfl)) rfl rfl ?_
          refine X_iload_n C 3 (dtL_13 (1029, .iload_n 3, 1) (mg 29 rfl)) rfl rfl ?_
          refine X_iconst (v := nI (1)) C (dtL_13 (1030, .iconst 1, 1) (mg 30 rfl)) (by decide) ?_
          refine X_iadd C (dtL_13 (1031, .iadd, 1) (mg 31 rfl)) ?_
          refine X_ti (y := nI (i3 + 1)) (nI_add (i3) (1)) ?_
          refine X_sld (v := xs (i3 + 1)) C hSc (vp_in_nI (by omega) (by omega)) (dtL_13 (1032, .iaload, 1) (mg 32 rfl)) (by rw [nI_clamp (by omega)]) ?_
          refine X_cV (As := [.int (xs (i3 + 1))]) (st := []) C (post := _) (m) (by omega) hM.2.1 rfl (ct_X8_status hw hM (xs (i3 + 1)) H190 G191) kL_146 (by decide) (by decide) rfl rfl (Nat.le_of_ble_eq_true rfl) (dtL_13 (1033, .invokevirtual 146, 3) (mg 33 rfl)) rfl (fun v195 H193 G194 hv195 => ?_)
          obtain ⟨⟨y2_, rfl⟩, hk2_⟩ := mKp_look hMk hv195
          have hJ2_ := J_kk hxm hJ hk1_ hk2_
          show X k w _ 1036 [some (.ref b), some (.ref (wA w (x))), some (.ref (wA w (m))), some (.int (nI (i3)))] [.int (y2_)] H193 G194
          refine X_pop C (dtL_13 (1036, .pop, 1) (mg 34 rfl)) rfl ?_
          refine X_goto (tgt := 1076) C (dtL_13 (1037, .goto 39, 3) (mg 35 rfl)) (by decide) ?_
          refine X_iinc (v := nI (i3 + 5)) (ls' := [some (.ref b), some (.ref (wA w (x))), some (.ref (wA w (m))), some (.int (nI (i3 + 5)))]) C (dtL_14 (1076, .iinc 3 5, 3) (mg 10 rfl)) rfl (nI_add (i3) 5) rfl ?_
          refine X_goto (tgt := 18) C (dtL_14 (1079, .goto (-1061), 3) (mg 11 rfl)) (by decide) ?_
          refine X_eq (ls' := [some (.ref b), some (.ref (wA w (x))), some (.ref (wA w (m))), some (.int (nI (i3 + 5)))]) (st' := []) (h' := H193) (g' := G194) rfl rfl rfl rfl ?_
          exact ih18 (i3 + 5) (H193) (G194) (by omega) hJ2_ (by omega)
        · refine X_swIn (tgt := 1040) C (dtL_0 (32, .tableswitch 1044 0 33 #[152, 185, 208, 241, 264, 277, 290, 323, 346, 369, 392, 405, 438, 471, 504, 527, 560, 593, 646, 669, 692, 735, 758, 771, 784, 817, 850, 883, 916, 939, 962, 985, 1008, 1031], 152) (mg 21 rfl)) (32) (by rw [q2]; decide) (by decide) (by decide) rfl (by decide) ?_
          refine X_aload_n C 1 (dtL_13 (1040, .aload_n 1, 1) (mg 36 rfl)) rfl rfl ?_
          refine X_aload_n C 0 (dtL_13 (1041, .aload_n 0, 1) (mg 37 rfl)) rfl rfl ?_
          refine X_iload_n C 3 (dtL_13 (1042, .iload_n 3, 1) (mg 38 rfl)) rfl rfl ?_
          refine X_iconst (v := nI (1)) C (dtL_13 (1043, .iconst 1, 1) (mg 39 rfl)) (by decide) ?_
          refine X_iadd C (dtL_13 (1044, .iadd, 1) (mg 40 rfl)) ?_
          refine X_ti (y := nI (i3 + 1)) (nI_add (i3) (1)) ?_
          refine X_sld (v := xs (i3 + 1)) C hSc (vp_in_nI (by omega) (by omega)) (dtL_13 (1045, .iaload, 1) (mg 41 rfl)) (by rw [nI_clamp (by omega)]) ?_
          refine X_cV (As := [.int (xs (i3 + 1))]) (st := []) C (post := _) (x) (by omega) hC.2.1 rfl (ct_X7_count hw hC (xs (i3 + 1)) hp18 gp18 hJ.1) kL_147 (by decide) (by decide) rfl rfl (Nat.le_of_ble_eq_true rfl) (dtL_13 (1046, .invokevirtual 147, 3) (mg 42 rfl)) rfl (fun v198 H196 G197 hv198 => ?_)
          obtain ⟨⟨y1_, rfl⟩, hw1_⟩ := hv198
          have hk1_ := cKp_w hJ.1 hw1_
          show X k w _ 1049 [some (.ref b), some (.ref (wA w (x))), some (.ref (wA w (m))), some (.int (nI (i3)))] [.int (y1_)] H196 G197
          have hMk := J_1 hxm hJ hk1_
          obtain ⟨⟨⟨nu, hnu, eu⟩, ⟨c0, hc0, hat⟩, -⟩, ⟨⟨ms, hms, ese⟩, ⟨mm, hmm, ema⟩⟩, -, ⟨mt, hmt, etx⟩⟩ := id hMk
          refine X_pop C (dtL_13 (1049, .pop, 1) (mg 43 rfl)) rfl ?_
          refine X_aload_n C 2 (dtL_13 (1050, .aload_n 2, 1) (mg 44 rfl)) rfl rfl ?_
          refine X_aload_n C 0 (dtL_13 (1051, .aload_n 0, 1) (mg 45 rfl)) rfl rfl ?_
          refine X_iload_n C 3 (dtL_13 (1052, .iload_n 3, 1) (mg 46 rfl)) rfl rfl ?_
          refine X_iconst (v := nI (1)) C (dtL_13 (1053, .iconst 1, 1) (mg 47 rfl)) (by decide) ?_
          refine X_iadd C (dtL_13 (1054, .iadd, 1) (mg 48 rfl)) ?_
          refine X_ti (y := nI (i3 + 1)) (nI_add (i3) (1)) ?_
          refine X_sld (v := xs (i3 + 1)) C hSc (vp_in_nI (by omega) (by omega)) (dtL_13 (1055, .iaload, 1) (mg 49 rfl)) (by rw [nI_clamp (by omega)]) ?_
          refine X_cV (As := [.int (xs (i3 + 1))]) (st := []) C (post := _) (m) (by omega) hM.2.1 rfl (ct_X8_count hw hM (xs (i3 + 1)) H196 G197) kL_150 (by decide) (by decide) rfl rfl (Nat.le_of_ble_eq_true rfl) (dtL_14 (1056, .invokevirtual 150, 3) (mg 0 rfl)) rfl (fun v201 H199 G200 hv201 => ?_)
          obtain ⟨⟨y2_, rfl⟩, hk2_⟩ := mKp_look hMk hv201
          have hJ2_ := J_kk hxm hJ hk1_ hk2_
          show X k w _ 1059 [some (.ref b), some (.ref (wA w (x))), some (.ref (wA w (m))), some (.int (nI (i3)))] [.int (y2_)] H199 G200
          refine X_pop C (dtL_14 (1059, .pop, 1) (mg 1 rfl)) rfl ?_
          refine X_goto (tgt := 1076) C (dtL_14 (1060, .goto 16, 3) (mg 2 rfl)) (by decide) ?_
          refine X_iinc (v := nI (i3 + 5)) (ls' := [some (.ref b), some (.ref (wA w (x))), some (.ref (wA w (m))), some (.int (nI (i3 + 5)))]) C (dtL_14 (1076, .iinc 3 5, 3) (mg 10 rfl)) rfl (nI_add (i3) 5) rfl ?_
          refine X_goto (tgt := 18) C (dtL_14 (1079, .goto (-1061), 3) (mg 11 rfl)) (by decide) ?_
          refine X_eq (ls' := [some (.ref b), some (.ref (wA w (x))), some (.ref (wA w (m))), some (.int (nI (i3 + 5)))]) (st' := []) (h' := H199) (g' := G200) rfl rfl rfl rfl ?_
          exact ih18 (i3 + 5) (H199) (G200) (by omega) hJ2_ (by omega)
        · refine X_swIn (tgt := 1063) C (dtL_0 (32, .tableswitch 1044 0 33 #[152, 185, 208, 241, 264, 277, 290, 323, 346, 369, 392, 405, 438, 471, 504, 527, 560, 593, 646, 669, 692, 735, 758, 771, 784, 817, 850, 883, 916, 939, 962, 985, 1008, 1031], 152) (mg 21 rfl)) (33) (by rw [q2]; decide) (by decide) (by decide) rfl (by decide) ?_
          refine X_aload_n C 1 (dtL_14 (1063, .aload_n 1, 1) (mg 3 rfl)) rfl rfl ?_
          refine X_cV (As := []) (st := []) C (post := _) (x) (by omega) hC.2.1 rfl (ct_X7_digest hw hC  hp18 gp18 hJ.1) kL_151 (by decide) (by decide) rfl rfl (Nat.le_of_ble_eq_true rfl) (dtL_14 (1064, .invokevirtual 151, 3) (mg 4 rfl)) rfl (fun v204 H202 G203 hv204 => ?_)
          obtain ⟨⟨y1_, rfl⟩, hw1_⟩ := hv204
          have hk1_ := cKp_w hJ.1 hw1_
          show X k w _ 1067 [some (.ref b), some (.ref (wA w (x))), some (.ref (wA w (m))), some (.int (nI (i3)))] [.long (y1_)] H202 G203
          have hMk := J_1 hxm hJ hk1_
          obtain ⟨⟨⟨nu, hnu, eu⟩, ⟨c0, hc0, hat⟩, -⟩, ⟨⟨ms, hms, ese⟩, ⟨mm, hmm, ema⟩⟩, -, ⟨mt, hmt, etx⟩⟩ := id hMk
          refine X_pop2 C (dtL_14 (1067, .pop2, 1) (mg 5 rfl)) rfl ?_
          refine X_aload_n C 2 (dtL_14 (1068, .aload_n 2, 1) (mg 6 rfl)) rfl rfl ?_
          refine X_cV (As := []) (st := []) C (post := _) (m) (by omega) hM.2.1 rfl (ct_X8_digest hw hM  H202 G203 hMk) kL_155 (by decide) (by decide) rfl rfl (Nat.le_of_ble_eq_true rfl) (dtL_14 (1069, .invokevirtual 155, 3) (mg 7 rfl)) rfl (fun v207 H205 G206 hv207 => ?_)
          obtain ⟨⟨y2_, rfl⟩, hw3_⟩ := hv207
          have hk2_ := mKp_w hMk hw3_
          have hJ2_ := J_kk hxm hJ hk1_ hk2_
          show X k w _ 1072 [some (.ref b), some (.ref (wA w (x))), some (.ref (wA w (m))), some (.int (nI (i3)))] [.long (y2_)] H205 G206
          refine X_pop2 C (dtL_14 (1072, .pop2, 1) (mg 8 rfl)) rfl ?_
          refine X_goto (tgt := 1076) C (dtL_14 (1073, .goto 3, 3) (mg 9 rfl)) (by decide) ?_
          refine X_iinc (v := nI (i3 + 5)) (ls' := [some (.ref b), some (.ref (wA w (x))), some (.ref (wA w (m))), some (.int (nI (i3 + 5)))]) C (dtL_14 (1076, .iinc 3 5, 3) (mg 10 rfl)) rfl (nI_add (i3) 5) rfl ?_
          refine X_goto (tgt := 18) C (dtL_14 (1079, .goto (-1061), 3) (mg 11 rfl)) (by decide) ?_
          refine X_eq (ls' := [some (.ref b), some (.ref (wA w (x))), some (.ref (wA w (m))), some (.int (nI (i3 + 5)))]) (st' := []) (h' := H205) (g' := G206) rfl rfl rfl rfl ?_
          exact ih18 (i3 + 5) (H205) (G206) (by omega) hJ2_ (by omega)
        · refine X_swOut (tgt := 1076) C (dtL_0 (32, .tableswitch 1044 0 33 #[152, 185, 208, 241, 264, 277, 290, 323, 346, 369, 392, 405, 438, 471, 504, 527, 560, 593, 646, 669, 692, 735, 758, 771, 784, 817, 850, 883, 916, 939, 962, 985, 1008, 1031], 152) (mg 21 rfl)) q2 (by decide) ?_
          refine X_iinc (v := nI (i3 + 5)) (ls' := [some (.ref b), some (.ref (wA w (x))), some (.ref (wA w (m))), some (.int (nI (i3 + 5)))]) C (dtL_14 (1076, .iinc 3 5, 3) (mg 10 rfl)) rfl (nI_add (i3) 5) rfl ?_
          refine X_goto (tgt := 18) C (dtL_14 (1079, .goto (-1061), 3) (mg 11 rfl)) (by decide) ?_
          refine X_eq (ls' := [some (.ref b), some (.ref (wA w (x))), some (.ref (wA w (m))), some (.int (nI (i3 + 5)))]) (st' := []) (h' := hp18) (g' := gp18) rfl rfl rfl rfl ?_
          exact ih18 (i3 + 5) (hp18) (gp18) (by omega) hJ (by omega)
  refine X_eq (ls' := [some (.ref b), some (.ref (wA w (x))), some (.ref (wA w (m))), some (.int (nI (0)))]) (st' := []) (h' := h) (g' := g) rfl rfl rfl rfl ?_
  exact lp18 _ (0) (h) (g) (by omega) hJ0 (Nat.le_refl _)
