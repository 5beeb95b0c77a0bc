/-! THE LAW, 1: its loop -/
def Sc (k : Kx) (b L : Nat) (xs : Nat → Int32) : Prop := match k with
  | (_, _, _, _, s, _, _, _, _, _, A, _, _) => va_X b L xs s s.heap ∧ b < s.heap.size ∧ ¬ A b
section XS
variable {k : Kx} {w : Kw} {cc : ByteArray} {own : String} {nL : Nat} {ret : Option FieldType} {fr lo : Nat} {Z : State → Prop} {pc : Nat} {ls : List (Option Value)} {st : List Value} {h : xI} {g : xJ}
theorem X_sld (C : Cx k w cc own nL ret fr lo) {b L : Nat} {xs : Nat → Int32} (hSc : Sc k b L xs) {i v : Int32} (hin : vp_in i L) (hd : decode cc pc = .ok (.iaload, 1)) (hv : xs i.toNatClampNeg = v) (kk : X k w Z (pc + 1) ls (.int v :: st) h g) : X k w Z pc ls (.int i :: .ref b :: st) h g := by
  obtain ⟨p, l, e, R, s, m, args, below, meth, c, A, cells, slots⟩ := k
  obtain ⟨hx, hb, hR⟩ := C
  intro H locs arr hP hS hl
  subst hv
  exact va_sld hx hb hSc.1 hSc.2.1 hSc.2.2 hS hin hd (kk H locs arr hP hS hl)
theorem X_slen (C : Cx k w cc own nL ret fr lo) {b L : Nat} {xs : Nat → Int32} (hSc : Sc k b L xs) {v : Int32} (hv : Int32.ofNat L = v) (hd : decode cc pc = .ok (.arraylength, 1)) (kk : X k w Z (pc + 1) ls (.int v :: st) h g) : X k w Z pc ls (.ref b :: st) h g := by
  obtain ⟨p, l, e, R, s, m, args, below, meth, c, A, cells, slots⟩ := k
  obtain ⟨hx, hb, hR⟩ := C
  intro H locs arr hP hS hl
  subst hv
  exact va_slen hx hb hSc.1 hSc.2.1 hSc.2.2 hS hd (kk H locs arr hP hS hl)
end XS
theorem law_lt {i L : Nat} (h : ¬ (nI L - nI 5) < nI i) (hi : i < 2 ^ 30) (hL : L < 2 ^ 30) : i + 5 ≤ L := by
  rw [Int32.lt_iff_toInt_lt, pk_sub_toInt hL (by omega), nI_i2 (by omega)] at h
  omega
theorem tyC_f {x nt : Nat} {a : Int32} {h h' : xI} {g g' : xJ} {v : Option Value} (H : tyC x nt a h g v h' g') {q i : Nat} (hq : x + 38 < q) : h' q i = h q i := by
  by_cases z : 0 ≤ a.toInt ∧ a.toInt < 128
  · by_cases z2 : nt = 150
    · obtain ⟨-, rfl, -⟩ := (H.1 z).1 z2; exact rcH_ne _ _ _ (by omega)
    · obtain ⟨-, rfl, -⟩ := (H.1 z).2 z2; rw [u2_ne _ _ _ _ (by omega), u2_ne _ _ _ _ (by omega)]
  · obtain ⟨-, rfl, -⟩ := H.2 z; exact rcH_ne _ _ _ (by omega)
theorem lgc_e {a b : Int64} (h : a = b) : lg_cmp a b = 0 := by
  subst h
  unfold lg_cmp
  simp
def fRs (x m i : Nat) (h : xI) (g : xJ) : Prop := i = 0 ∧ J2 x m h ∧ cFr x h ∧ mFr m h ∧ g x 7 = g m 4 ∧ g x 8 = g m 5
theorem sw_0_33 (x : Int32) : x = 0 ∨ x = 1 ∨ x = 2 ∨ x = 3 ∨ x = 4 ∨ x = 5 ∨ x = 6 ∨ x = 7 ∨ x = 8 ∨ x = 9 ∨ x = 10 ∨ x = 11 ∨ x = 12 ∨ x = 13 ∨ x = 14 ∨ x = 15 ∨ x = 16 ∨ x = 17 ∨ x = 18 ∨ x = 19 ∨ x = 20 ∨ x = 21 ∨ x = 22 ∨ x = 23 ∨ x = 24 ∨ x = 25 ∨ x = 26 ∨ x = 27 ∨ x = 28 ∨ x = 29 ∨ x = 30 ∨ x = 31 ∨ x = 32 ∨ x = 33 ∨ (x.toInt < 0 ∨ 33 < x.toInt) := by
  have e : ∀ y : Int32, x = y ↔ x.toInt = y.toInt := fun y => Int32.toInt_inj.symm
  simp only [e, show (0 : Int32).toInt = 0 from by decide, show (1 : Int32).toInt = 1 from by decide, show (2 : Int32).toInt = 2 from by decide, show (3 : Int32).toInt = 3 from by decide, show (4 : Int32).toInt = 4 from by decide, show (5 : Int32).toInt = 5 from by decide, show (6 : Int32).toInt = 6 from by decide, show (7 : Int32).toInt = 7 from by decide, show (8 : Int32).toInt = 8 from by decide, show (9 : Int32).toInt = 9 from by decide, show (10 : Int32).toInt = 10 from by decide, show (11 : Int32).toInt = 11 from by decide, show (12 : Int32).toInt = 12 from by decide, show (13 : Int32).toInt = 13 from by decide, show (14 : Int32).toInt = 14 from by decide, show (15 : Int32).toInt = 15 from by decide, show (16 : Int32).toInt = 16 from by decide, show (17 : Int32).toInt = 17 from by decide, show (18 : Int32).toInt = 18 from by decide, show (19 : Int32).toInt = 19 from by decide, show (20 : Int32).toInt = 20 from by decide, show (21 : Int32).toInt = 21 from by decide, show (22 : Int32).toInt = 22 from by decide, show (23 : Int32).toInt = 23 from by decide, show (24 : Int32).toInt = 24 from by decide, show (25 : Int32).toInt = 25 from by decide, show (26 : Int32).toInt = 26 from by decide, show (27 : Int32).toInt = 27 from by decide, show (28 : Int32).toInt = 28 from by decide, show (29 : Int32).toInt = 29 from by decide, show (30 : Int32).toInt = 30 from by decide, show (31 : Int32).toInt = 31 from by decide, show (32 : Int32).toInt = 32 from by decide, show (33 : Int32).toInt = 33 from by decide]
  omega
set_option maxHeartbeats 40000000 in
set_option maxRecDepth 100000 in
theorem law_loop {k : Kx} {w : Kw} {Z0 : State → Prop} (hw : wOk w) {x m b L : Nat} {xs : Nat → Int32} {aK aV : Nat → Nat} {zr : Value} (hs : sOk w aK aV zr) (hz : zr = .null ∨ ∃ ra, zr = .ref ra) (hC : shC w x) (hM : shM w m) (hxm : x + 38 < m) (hL : L ≤ 5) (C : Cx k w cL_law RL 4 (some .boolean) 11 384) (hSc : Sc k b L xs) (hend : ∀ ls h g, X k w Z0 1085 ls [.int (nI 1)] h g) (h : xI) (g : xJ) (hJ0 : J2 x m h) (hCF0 : cFr x h) (hMF0 : mFr m h) (hGF0 : g x 7 = g m 4 ∧ g x 8 = g m 5) : X k w Z0 18 [some (.ref b), some (.ref (wA w x)), some (.ref (wA w m)), some (.int (nI 0))] [] h g := by
  have hxn := hC.1
  have hmn := hM.1
  have lp18 : ∀ (nn18 : Nat) (i3 : Nat) (hp18 : xI) (gp18 : xJ), (i3 ≤ L) → (fRs x m i3 hp18 gp18 ∨ 5 ≤ i3) → L + 1 - i3 ≤ nn18 → X k w Z0 18 [some (.ref b), some (.ref (wA w (x))), some (.ref (wA w (m))), some (.int (nI (i3)))] [] hp18 gp18 := by
    intro nn18
    induction nn18 with
    | zero => intro i3 hp18 gp18 hc18_0 hc18_1 hz; exact absurd hz (by omega)
    | succ nn18 ih18 =>
      intro i3 hp18 gp18 hc18_0 hc18_1 hz18
      refine X_iload_n C 3 (dtL_0 (18, .iload_n 3, 1) (mg 10 rfl)) rfl rfl ?_
      refine X_aload_n C 0 (dtL_0 (19, .aload_n 0, 1) (mg 11 rfl)) rfl rfl ?_
      refine X_slen (v := nI L) C hSc rfl (dtL_0 (20, .arraylength, 1) (mg 12 rfl)) ?_
      refine X_iconst (v := nI (5)) C (dtL_0 (21, .iconst 5, 1) (mg 13 rfl)) (by decide) ?_
      refine X_isub C (dtL_0 (22, .isub, 1) (mg 14 rfl)) ?_
      refine X_icmp_gt (tgt := 1084) C (dtL_0 (23, .if_icmp .gt 1061, 3) (mg 15 rfl)) (by decide) (fun q1 => ?_) (fun q1 => ?_)
      · skip
        refine X_iconst (v := nI (1)) C (dtL_14 (1084, .iconst 1, 1) (mg 14 rfl)) (by decide) ?_
        exact hend _ _ _
      · skip
        have hlt : i3 + 5 ≤ L := law_lt q1 (by omega) (by omega)
        obtain ⟨hi0_, hJ, hCF, hMF, hGF⟩ := hc18_1.resolve_right (by omega)
        obtain ⟨⟨-, -, ⟨ns, hns, hse⟩, ⟨nm, hnm, hma⟩⟩, -, -, ⟨nt, hnt, htx⟩, -⟩ := id hJ.1.1
        refine X_aload_n C 0 (dtL_0 (26, .aload_n 0, 1) (mg 16 rfl)) rfl rfl ?_
        refine X_iload_n C 3 (dtL_0 (27, .iload_n 3, 1) (mg 17 rfl)) rfl rfl ?_
        refine X_sld (v := xs (i3)) C hSc (vp_in_nI (by omega) (by omega)) (dtL_0 (28, .iaload, 1) (mg 18 rfl)) (by rw [nI_clamp (by omega)]) ?_
        refine X_bipush (v := nI (63)) C (dtL_0 (29, .bipush 63, 2) (mg 19 rfl)) (by decide) ?_
        refine X_iand C (dtL_0 (31, .iand, 1) (mg 20 rfl)) ?_
        rcases sw_0_33 ((xs (i3)) &&& (nI (63))) with q2 | q2 | q2 | q2 | q2 | q2 | q2 | q2 | q2 | q2 | q2 | q2 | q2 | q2 | q2 | q2 | q2 | q2 | q2 | q2 | q2 | q2 | q2 | q2 | q2 | q2 | q2 | q2 | q2 | q2 | q2 | q2 | q2 | q2 | q2
        · refine X_swIn (tgt := 184) C (dtL_0 (32, .tableswitch 1046 0 33 #[152, 185, 208, 241, 264, 277, 290, 323, 346, 369, 392, 405, 438, 471, 504, 527, 560, 593, 646, 669, 692, 735, 758, 771, 784, 817, 850, 883, 916, 940, 963, 986, 1009, 1032], 152) (mg 21 rfl)) (0) (by rw [q2]; decide) (by decide) (by decide) rfl (by decide) ?_
          refine X_aload_n C 1 (dtL_0 (184, .aload_n 1, 1) (mg 22 rfl)) rfl rfl ?_
          refine X_aload_n C 0 (dtL_0 (185, .aload_n 0, 1) (mg 23 rfl)) rfl rfl ?_
          refine X_iload_n C 3 (dtL_0 (186, .iload_n 3, 1) (mg 24 rfl)) rfl rfl ?_
          refine X_iconst (v := nI (1)) C (dtL_0 (187, .iconst 1, 1) (mg 25 rfl)) (by decide) ?_
          refine X_iadd C (dtL_0 (188, .iadd, 1) (mg 26 rfl)) ?_
          refine X_ti (y := nI (i3 + 1)) (nI_add (i3) (1)) ?_
          refine X_sld (v := xs (i3 + 1)) C hSc (vp_in_nI (by omega) (by omega)) (dtL_0 (189, .iaload, 1) (mg 27 rfl)) (by rw [nI_clamp (by omega)]) ?_
          refine X_aload_n C 0 (dtL_0 (190, .aload_n 0, 1) (mg 28 rfl)) rfl rfl ?_
          refine X_iload_n C 3 (dtL_0 (191, .iload_n 3, 1) (mg 29 rfl)) rfl rfl ?_
          refine X_iconst (v := nI (2)) C (dtL_0 (192, .iconst 2, 1) (mg 30 rfl)) (by decide) ?_
          refine X_iadd C (dtL_0 (193, .iadd, 1) (mg 31 rfl)) ?_
          refine X_ti (y := nI (i3 + 2)) (nI_add (i3) (2)) ?_
          refine X_sld (v := xs (i3 + 2)) C hSc (vp_in_nI (by omega) (by omega)) (dtL_0 (194, .iaload, 1) (mg 32 rfl)) (by rw [nI_clamp (by omega)]) ?_
          refine X_cV (As := [.int (xs (i3 + 1)), .int (xs (i3 + 2))]) (st := []) C (post := _) (x) (by omega) hC.2.1 rfl (cx_X7_nave hw hC (xs (i3 + 1)) (xs (i3 + 2)) hp18 gp18 hCF) kL_13 (by decide) (by decide) rfl rfl (Nat.le_of_ble_eq_true rfl) (dtL_0 (195, .invokevirtual 13, 3) (mg 33 rfl)) rfl (fun v5 H3 G4 hv5 => ?_)
          obtain ⟨e1_, hf1_⟩ := hv5
          obtain ⟨y1_, rfl⟩ : isI _ := ⟨_, e1_⟩
          show X k w _ 198 [some (.ref b), some (.ref (wA w (x))), some (.ref (wA w (m))), some (.int (nI (i3)))] [.int (y1_)] H3 G4
          have hMF1 := mFr_k (fun q i z => hf1_ q i (by omega)) hMF
          refine X_aload_n C 2 (dtL_0 (198, .aload_n 2, 1) (mg 34 rfl)) rfl rfl ?_
          refine X_aload_n C 0 (dtL_0 (199, .aload_n 0, 1) (mg 35 rfl)) rfl rfl ?_
          refine X_iload_n C 3 (dtL_0 (200, .iload_n 3, 1) (mg 36 rfl)) rfl rfl ?_
          refine X_iconst (v := nI (1)) C (dtL_0 (201, .iconst 1, 1) (mg 37 rfl)) (by decide) ?_
          refine X_iadd C (dtL_0 (202, .iadd, 1) (mg 38 rfl)) ?_
          refine X_ti (y := nI (i3 + 1)) (nI_add (i3) (1)) ?_
          refine X_sld (v := xs (i3 + 1)) C hSc (vp_in_nI (by omega) (by omega)) (dtL_0 (203, .iaload, 1) (mg 39 rfl)) (by rw [nI_clamp (by omega)]) ?_
          refine X_aload_n C 0 (dtL_0 (204, .aload_n 0, 1) (mg 40 rfl)) rfl rfl ?_
          refine X_iload_n C 3 (dtL_0 (205, .iload_n 3, 1) (mg 41 rfl)) rfl rfl ?_
          refine X_iconst (v := nI (2)) C (dtL_0 (206, .iconst 2, 1) (mg 42 rfl)) (by decide) ?_
          refine X_iadd C (dtL_0 (207, .iadd, 1) (mg 43 rfl)) ?_
          refine X_ti (y := nI (i3 + 2)) (nI_add (i3) (2)) ?_
          refine X_sld (v := xs (i3 + 2)) C hSc (vp_in_nI (by omega) (by omega)) (dtL_0 (208, .iaload, 1) (mg 44 rfl)) (by rw [nI_clamp (by omega)]) ?_
          refine X_cV (As := [.int (xs (i3 + 1)), .int (xs (i3 + 2))]) (st := [.int (y1_)]) C (post := _) (m) (by omega) hM.2.1 rfl (ct_X8_nave hw hM (xs (i3 + 1)) (xs (i3 + 2)) H3 G4) kL_17 (by decide) (by decide) rfl rfl (Nat.le_of_ble_eq_true rfl) (dtL_0 (209, .invokevirtual 17, 3) (mg 45 rfl)) rfl (fun v8 H6 G7 hv8 => ?_)
          have e2_ := rf_nave hMF1 hv8
          obtain ⟨y2_, rfl⟩ : isI _ := ⟨_, e2_⟩
          have heq_ : y1_ = y2_ := by (have z := e1_.trans e2_.symm; injection z with z; injection z)
          show X k w _ 212 [some (.ref b), some (.ref (wA w (x))), some (.ref (wA w (m))), some (.int (nI (i3)))] [.int (y2_), .int (y1_)] H6 G7
          refine X_icmp_eq (tgt := 1078) C (dtL_0 (212, .if_icmp .eq 866, 3) (mg 46 rfl)) (by decide) (fun q9 => ?_) (fun q9 => ?_)
          · skip
            refine X_iinc (v := nI (i3 + 5)) (ls' := [some (.ref b), some (.ref (wA w (x))), some (.ref (wA w (m))), some (.int (nI (i3 + 5)))]) C (dtL_14 (1078, .iinc 3 5, 3) (mg 12 rfl)) rfl (nI_add (i3) 5) rfl ?_
            refine X_goto (tgt := 18) C (dtL_14 (1081, .goto (-1063), 3) (mg 13 rfl)) (by decide) ?_
            refine X_eq (ls' := [some (.ref b), some (.ref (wA w (x))), some (.ref (wA w (m))), some (.int (nI (i3 + 5)))]) (st' := []) (h' := H6) (g' := G7) rfl rfl rfl rfl ?_
            exact ih18 (i3 + 5) (H6) (G7) (by omega) (Or.inr (by omega)) (by omega)
          · skip
            exact absurd heq_ q9
        · refine X_swIn (tgt := 217) C (dtL_0 (32, .tableswitch 1046 0 33 #[152, 185, 208, 241, 264, 277, 290, 323, 346, 369, 392, 405, 438, 471, 504, 527, 560, 593, 646, 669, 692, 735, 758, 771, 784, 817, 850, 883, 916, 940, 963, 986, 1009, 1032], 152) (mg 21 rfl)) (1) (by rw [q2]; decide) (by decide) (by decide) rfl (by decide) ?_
          refine X_aload_n C 1 (dtL_0 (217, .aload_n 1, 1) (mg 49 rfl)) rfl rfl ?_
          refine X_aload_n C 0 (dtL_1 (218, .aload_n 0, 1) (mg 0 rfl)) rfl rfl ?_
          refine X_iload_n C 3 (dtL_1 (219, .iload_n 3, 1) (mg 1 rfl)) rfl rfl ?_
          refine X_iconst (v := nI (1)) C (dtL_1 (220, .iconst 1, 1) (mg 2 rfl)) (by decide) ?_
          refine X_iadd C (dtL_1 (221, .iadd, 1) (mg 3 rfl)) ?_
          refine X_ti (y := nI (i3 + 1)) (nI_add (i3) (1)) ?_
          refine X_sld (v := xs (i3 + 1)) C hSc (vp_in_nI (by omega) (by omega)) (dtL_1 (222, .iaload, 1) (mg 4 rfl)) (by rw [nI_clamp (by omega)]) ?_
          refine X_cV (As := [.int (xs (i3 + 1))]) (st := []) C (post := _) (x) (by omega) hC.2.1 rfl (ct_X7_harrow hw hC (xs (i3 + 1)) hp18 gp18) kL_18 (by decide) (by decide) rfl rfl (Nat.le_of_ble_eq_true rfl) (dtL_1 (223, .invokevirtual 18, 3) (mg 5 rfl)) rfl (fun v12 H10 G11 hv12 => ?_)
          have hv1_ := hv12
          obtain ⟨⟨y1_, rfl⟩, hk1_⟩ := cKp_harrow hJ.1.1 hv1_
          show X k w _ 226 [some (.ref b), some (.ref (wA w (x))), some (.ref (wA w (m))), some (.int (nI (i3)))] [.int (y1_)] H10 G11
          have hMk := J_1 hxm hJ.1 hk1_
          obtain ⟨⟨⟨nu, hnu, eu⟩, ⟨c0, hc0, hat⟩, -⟩, ⟨⟨ms, hms, ese⟩, ⟨mm, hmm, ema⟩⟩, -, ⟨mt, hmt, etx⟩⟩ := id hMk
          refine X_aload_n C 2 (dtL_1 (226, .aload_n 2, 1) (mg 6 rfl)) rfl rfl ?_
          refine X_aload_n C 0 (dtL_1 (227, .aload_n 0, 1) (mg 7 rfl)) rfl rfl ?_
          refine X_iload_n C 3 (dtL_1 (228, .iload_n 3, 1) (mg 8 rfl)) rfl rfl ?_
          refine X_iconst (v := nI (1)) C (dtL_1 (229, .iconst 1, 1) (mg 9 rfl)) (by decide) ?_
          refine X_iadd C (dtL_1 (230, .iadd, 1) (mg 10 rfl)) ?_
          refine X_ti (y := nI (i3 + 1)) (nI_add (i3) (1)) ?_
          refine X_sld (v := xs (i3 + 1)) C hSc (vp_in_nI (by omega) (by omega)) (dtL_1 (231, .iaload, 1) (mg 11 rfl)) (by rw [nI_clamp (by omega)]) ?_
          refine X_cV (As := [.int (xs (i3 + 1))]) (st := [.int (y1_)]) C (post := _) (m) (by omega) hM.2.1 rfl (ct_X8_harrow hw hM (xs (i3 + 1)) H10 G11) kL_22 (by decide) (by decide) rfl rfl (Nat.le_of_ble_eq_true rfl) (dtL_1 (232, .invokevirtual 22, 3) (mg 12 rfl)) rfl (fun v15 H13 G14 hv15 => ?_)
          have hv2_ := hv15
          obtain ⟨y2_, rfl⟩ := (mKp_harrow hMk hv2_).1
          obtain ⟨hJ2_, hvv_⟩ := JX_harrow hxm hJ hv1_ hv2_
          have heq_ : y1_ = y2_ := by injection hvv_ with z; injection z
          show X k w _ 235 [some (.ref b), some (.ref (wA w (x))), some (.ref (wA w (m))), some (.int (nI (i3)))] [.int (y2_), .int (y1_)] H13 G14
          refine X_icmp_eq (tgt := 1078) C (dtL_1 (235, .if_icmp .eq 843, 3) (mg 13 rfl)) (by decide) (fun q16 => ?_) (fun q16 => ?_)
          · skip
            refine X_iinc (v := nI (i3 + 5)) (ls' := [some (.ref b), some (.ref (wA w (x))), some (.ref (wA w (m))), some (.int (nI (i3 + 5)))]) C (dtL_14 (1078, .iinc 3 5, 3) (mg 12 rfl)) rfl (nI_add (i3) 5) rfl ?_
            refine X_goto (tgt := 18) C (dtL_14 (1081, .goto (-1063), 3) (mg 13 rfl)) (by decide) ?_
            refine X_eq (ls' := [some (.ref b), some (.ref (wA w (x))), some (.ref (wA w (m))), some (.int (nI (i3 + 5)))]) (st' := []) (h' := H13) (g' := G14) rfl rfl rfl rfl ?_
            exact ih18 (i3 + 5) (H13) (G14) (by omega) (Or.inr (by omega)) (by omega)
          · skip
            exact absurd heq_ q16
        · refine X_swIn (tgt := 240) C (dtL_0 (32, .tableswitch 1046 0 33 #[152, 185, 208, 241, 264, 277, 290, 323, 346, 369, 392, 405, 438, 471, 504, 527, 560, 593, 646, 669, 692, 735, 758, 771, 784, 817, 850, 883, 916, 940, 963, 986, 1009, 1032], 152) (mg 21 rfl)) (2) (by rw [q2]; decide) (by decide) (by decide) rfl (by decide) ?_
          refine X_aload_n C 1 (dtL_1 (240, .aload_n 1, 1) (mg 16 rfl)) rfl rfl ?_
          refine X_aload_n C 0 (dtL_1 (241, .aload_n 0, 1) (mg 17 rfl)) rfl rfl ?_
          refine X_iload_n C 3 (dtL_1 (242, .iload_n 3, 1) (mg 18 rfl)) rfl rfl ?_
          refine X_iconst (v := nI (1)) C (dtL_1 (243, .iconst 1, 1) (mg 19 rfl)) (by decide) ?_
          refine X_iadd C (dtL_1 (244, .iadd, 1) (mg 20 rfl)) ?_
          refine X_ti (y := nI (i3 + 1)) (nI_add (i3) (1)) ?_
          refine X_sld (v := xs (i3 + 1)) C hSc (vp_in_nI (by omega) (by omega)) (dtL_1 (245, .iaload, 1) (mg 21 rfl)) (by rw [nI_clamp (by omega)]) ?_
          refine X_aload_n C 0 (dtL_1 (246, .aload_n 0, 1) (mg 22 rfl)) rfl rfl ?_
          refine X_iload_n C 3 (dtL_1 (247, .iload_n 3, 1) (mg 23 rfl)) rfl rfl ?_
          refine X_iconst (v := nI (2)) C (dtL_1 (248, .iconst 2, 1) (mg 24 rfl)) (by decide) ?_
          refine X_iadd C (dtL_1 (249, .iadd, 1) (mg 25 rfl)) ?_
          refine X_ti (y := nI (i3 + 2)) (nI_add (i3) (2)) ?_
          refine X_sld (v := xs (i3 + 2)) C hSc (vp_in_nI (by omega) (by omega)) (dtL_1 (250, .iaload, 1) (mg 26 rfl)) (by rw [nI_clamp (by omega)]) ?_
          refine X_cV (As := [.int (xs (i3 + 1)), .int (xs (i3 + 2))]) (st := []) C (post := _) (x) (by omega) hC.2.1 rfl (ct_X7_stony hw hC (xs (i3 + 1)) (xs (i3 + 2)) hp18 gp18) kL_23 (by decide) (by decide) rfl rfl (Nat.le_of_ble_eq_true rfl) (dtL_1 (251, .invokevirtual 23, 3) (mg 27 rfl)) rfl (fun v19 H17 G18 hv19 => ?_)
          have hv1_ := hv19
          obtain ⟨⟨y1_, rfl⟩, hk1_⟩ := cKp_stony hJ.1.1 hv1_
          show X k w _ 254 [some (.ref b), some (.ref (wA w (x))), some (.ref (wA w (m))), some (.int (nI (i3)))] [.int (y1_)] H17 G18
          have hMk := J_1 hxm hJ.1 hk1_
          obtain ⟨⟨⟨nu, hnu, eu⟩, ⟨c0, hc0, hat⟩, -⟩, ⟨⟨ms, hms, ese⟩, ⟨mm, hmm, ema⟩⟩, -, ⟨mt, hmt, etx⟩⟩ := id hMk
          refine X_aload_n C 2 (dtL_1 (254, .aload_n 2, 1) (mg 28 rfl)) rfl rfl ?_
          refine X_aload_n C 0 (dtL_1 (255, .aload_n 0, 1) (mg 29 rfl)) rfl rfl ?_
          refine X_iload_n C 3 (dtL_1 (256, .iload_n 3, 1) (mg 30 rfl)) rfl rfl ?_
          refine X_iconst (v := nI (1)) C (dtL_1 (257, .iconst 1, 1) (mg 31 rfl)) (by decide) ?_
          refine X_iadd C (dtL_1 (258, .iadd, 1) (mg 32 rfl)) ?_
          refine X_ti (y := nI (i3 + 1)) (nI_add (i3) (1)) ?_
          refine X_sld (v := xs (i3 + 1)) C hSc (vp_in_nI (by omega) (by omega)) (dtL_1 (259, .iaload, 1) (mg 33 rfl)) (by rw [nI_clamp (by omega)]) ?_
          refine X_aload_n C 0 (dtL_1 (260, .aload_n 0, 1) (mg 34 rfl)) rfl rfl ?_
          refine X_iload_n C 3 (dtL_1 (261, .iload_n 3, 1) (mg 35 rfl)) rfl rfl ?_
          refine X_iconst (v := nI (2)) C (dtL_1 (262, .iconst 2, 1) (mg 36 rfl)) (by decide) ?_
          refine X_iadd C (dtL_1 (263, .iadd, 1) (mg 37 rfl)) ?_
          refine X_ti (y := nI (i3 + 2)) (nI_add (i3) (2)) ?_
          refine X_sld (v := xs (i3 + 2)) C hSc (vp_in_nI (by omega) (by omega)) (dtL_1 (264, .iaload, 1) (mg 38 rfl)) (by rw [nI_clamp (by omega)]) ?_
          refine X_cV (As := [.int (xs (i3 + 1)), .int (xs (i3 + 2))]) (st := [.int (y1_)]) C (post := _) (m) (by omega) hM.2.1 rfl (ct_X8_stony hw hM (xs (i3 + 1)) (xs (i3 + 2)) H17 G18) kL_26 (by decide) (by decide) rfl rfl (Nat.le_of_ble_eq_true rfl) (dtL_1 (265, .invokevirtual 26, 3) (mg 39 rfl)) rfl (fun v22 H20 G21 hv22 => ?_)
          have hv2_ := hv22
          obtain ⟨y2_, rfl⟩ := (mKp_stony hMk hv2_).1
          obtain ⟨hJ2_, hvv_⟩ := JX_stony hxm hJ hv1_ hv2_
          have heq_ : y1_ = y2_ := by injection hvv_ with z; injection z
          show X k w _ 268 [some (.ref b), some (.ref (wA w (x))), some (.ref (wA w (m))), some (.int (nI (i3)))] [.int (y2_), .int (y1_)] H20 G21
          refine X_icmp_eq (tgt := 1078) C (dtL_1 (268, .if_icmp .eq 810, 3) (mg 40 rfl)) (by decide) (fun q23 => ?_) (fun q23 => ?_)
          · skip
            refine X_iinc (v := nI (i3 + 5)) (ls' := [some (.ref b), some (.ref (wA w (x))), some (.ref (wA w (m))), some (.int (nI (i3 + 5)))]) C (dtL_14 (1078, .iinc 3 5, 3) (mg 12 rfl)) rfl (nI_add (i3) 5) rfl ?_
            refine X_goto (tgt := 18) C (dtL_14 (1081, .goto (-1063), 3) (mg 13 rfl)) (by decide) ?_
            refine X_eq (ls' := [some (.ref b), some (.ref (wA w (x))), some (.ref (wA w (m))), some (.int (nI (i3 + 5)))]) (st' := []) (h' := H20) (g' := G21) rfl rfl rfl rfl ?_
            exact ih18 (i3 + 5) (H20) (G21) (by omega) (Or.inr (by omega)) (by omega)
          · skip
            exact absurd heq_ q23
        · refine X_swIn (tgt := 273) C (dtL_0 (32, .tableswitch 1046 0 33 #[152, 185, 208, 241, 264, 277, 290, 323, 346, 369, 392, 405, 438, 471, 504, 527, 560, 593, 646, 669, 692, 735, 758, 771, 784, 817, 850, 883, 916, 940, 963, 986, 1009, 1032], 152) (mg 21 rfl)) (3) (by rw [q2]; decide) (by decide) (by decide) rfl (by decide) ?_
          refine X_aload_n C 1 (dtL_1 (273, .aload_n 1, 1) (mg 43 rfl)) rfl rfl ?_
          refine X_aload_n C 0 (dtL_1 (274, .aload_n 0, 1) (mg 44 rfl)) rfl rfl ?_
          refine X_iload_n C 3 (dtL_1 (275, .iload_n 3, 1) (mg 45 rfl)) rfl rfl ?_
          refine X_iconst (v := nI (1)) C (dtL_1 (276, .iconst 1, 1) (mg 46 rfl)) (by decide) ?_
          refine X_iadd C (dtL_1 (277, .iadd, 1) (mg 47 rfl)) ?_
          refine X_ti (y := nI (i3 + 1)) (nI_add (i3) (1)) ?_
          refine X_sld (v := xs (i3 + 1)) C hSc (vp_in_nI (by omega) (by omega)) (dtL_1 (278, .iaload, 1) (mg 48 rfl)) (by rw [nI_clamp (by omega)]) ?_
          refine X_cV (As := [.int (xs (i3 + 1))]) (st := []) C (post := _) (x) (by omega) hC.2.1 rfl (ct_X7_type hw hC (xs (i3 + 1)) (nt := nt) hnt hp18 gp18 htx) kL_27 (by decide) (by decide) rfl rfl (Nat.le_of_ble_eq_true rfl) (dtL_1 (279, .invokevirtual 27, 3) (mg 49 rfl)) rfl (fun v26 H24 G25 hv26 => ?_)
          have hv1_ := hv26
          obtain ⟨y1_, rfl⟩ := tyC_i (x := x) (nt := nt) (a := xs (i3 + 1)) hv1_
          show X k w _ 282 [some (.ref b), some (.ref (wA w (x))), some (.ref (wA w (m))), some (.int (nI (i3)))] [.int (y1_)] H24 G25
          have etx_ : H24 m 11 = nI nt := (tyC_f (x := x) (nt := nt) (a := xs (i3 + 1)) hv1_ (by omega)).trans (hJ.1.2.2.1.symm.trans htx)
          refine X_aload_n C 2 (dtL_2 (282, .aload_n 2, 1) (mg 0 rfl)) rfl rfl ?_
          refine X_aload_n C 0 (dtL_2 (283, .aload_n 0, 1) (mg 1 rfl)) rfl rfl ?_
          refine X_iload_n C 3 (dtL_2 (284, .iload_n 3, 1) (mg 2 rfl)) rfl rfl ?_
          refine X_iconst (v := nI (1)) C (dtL_2 (285, .iconst 1, 1) (mg 3 rfl)) (by decide) ?_
          refine X_iadd C (dtL_2 (286, .iadd, 1) (mg 4 rfl)) ?_
          refine X_ti (y := nI (i3 + 1)) (nI_add (i3) (1)) ?_
          refine X_sld (v := xs (i3 + 1)) C hSc (vp_in_nI (by omega) (by omega)) (dtL_2 (287, .iaload, 1) (mg 5 rfl)) (by rw [nI_clamp (by omega)]) ?_
          refine X_cV (As := [.int (xs (i3 + 1))]) (st := [.int (y1_)]) C (post := _) (m) (by omega) hM.2.1 rfl (ct_X8_type hw hM (xs (i3 + 1)) (n := nt) hnt H24 G25 etx_) kL_30 (by decide) (by decide) rfl rfl (Nat.le_of_ble_eq_true rfl) (dtL_2 (288, .invokevirtual 30, 3) (mg 6 rfl)) rfl (fun v29 H27 G28 hv29 => ?_)
          have hv2_ := hv29
          obtain ⟨y2_, rfl⟩ := tyM_i (m := m) (nt := nt) (a := xs (i3 + 1)) hv2_
          obtain ⟨hJ2_, hvv_⟩ := JX_type (nt := nt) (a := xs (i3 + 1)) hxm hJ hnt hv1_ hv2_
          have heq_ : y1_ = y2_ := by injection hvv_ with z; injection z
          show X k w _ 291 [some (.ref b), some (.ref (wA w (x))), some (.ref (wA w (m))), some (.int (nI (i3)))] [.int (y2_), .int (y1_)] H27 G28
          refine X_icmp_eq (tgt := 1078) C (dtL_2 (291, .if_icmp .eq 787, 3) (mg 7 rfl)) (by decide) (fun q30 => ?_) (fun q30 => ?_)
          · skip
            refine X_iinc (v := nI (i3 + 5)) (ls' := [some (.ref b), some (.ref (wA w (x))), some (.ref (wA w (m))), some (.int (nI (i3 + 5)))]) C (dtL_14 (1078, .iinc 3 5, 3) (mg 12 rfl)) rfl (nI_add (i3) 5) rfl ?_
            refine X_goto (tgt := 18) C (dtL_14 (1081, .goto (-1063), 3) (mg 13 rfl)) (by decide) ?_
            refine X_eq (ls' := [some (.ref b), some (.ref (wA w (x))), some (.ref (wA w (m))), some (.int (nI (i3 + 5)))]) (st' := []) (h' := H27) (g' := G28) rfl rfl rfl rfl ?_
            exact ih18 (i3 + 5) (H27) (G28) (by omega) (Or.inr (by omega)) (by omega)
          · skip
            exact absurd heq_ q30
        · refine X_swIn (tgt := 296) C (dtL_0 (32, .tableswitch 1046 0 33 #[152, 185, 208, 241, 264, 277, 290, 323, 346, 369, 392, 405, 438, 471, 504, 527, 560, 593, 646, 669, 692, 735, 758, 771, 784, 817, 850, 883, 916, 940, 963, 986, 1009, 1032], 152) (mg 21 rfl)) (4) (by rw [q2]; decide) (by decide) (by decide) rfl (by decide) ?_
          refine X_aload_n C 1 (dtL_2 (296, .aload_n 1, 1) (mg 10 rfl)) rfl rfl ?_
          refine X_cV (As := []) (st := []) C (post := _) (x) (by omega) hC.2.1 rfl (ct_X7_clear hw hC  hp18 gp18) kL_31 (by decide) (by decide) rfl rfl (Nat.le_of_ble_eq_true rfl) (dtL_2 (297, .invokevirtual 31, 3) (mg 11 rfl)) rfl (fun v33 H31 G32 hv33 => ?_)
          have hv1_ := hv33
          obtain ⟨y1_, rfl⟩ := isI_x hv1_
          show X k w _ 300 [some (.ref b), some (.ref (wA w (x))), some (.ref (wA w (m))), some (.int (nI (i3)))] [.int (y1_)] H31 G32
          refine X_aload_n C 2 (dtL_2 (300, .aload_n 2, 1) (mg 12 rfl)) rfl rfl ?_
          refine X_cV (As := []) (st := [.int (y1_)]) C (post := _) (m) (by omega) hM.2.1 rfl (ct_X8_clear hw hM  H31 G32) kL_35 (by decide) (by decide) rfl rfl (Nat.le_of_ble_eq_true rfl) (dtL_2 (301, .invokevirtual 35, 3) (mg 13 rfl)) rfl (fun v36 H34 G35 hv36 => ?_)
          have hv2_ := hv36
          obtain ⟨y2_, rfl⟩ := isI_x hv2_
          obtain ⟨hJ2_, hvv_⟩ := JX_clear hxm hJ hv1_ hv2_
          have heq_ : y1_ = y2_ := by injection hvv_ with z; injection z
          show X k w _ 304 [some (.ref b), some (.ref (wA w (x))), some (.ref (wA w (m))), some (.int (nI (i3)))] [.int (y2_), .int (y1_)] H34 G35
          refine X_icmp_eq (tgt := 1078) C (dtL_2 (304, .if_icmp .eq 774, 3) (mg 14 rfl)) (by decide) (fun q37 => ?_) (fun q37 => ?_)
          · skip
            refine X_iinc (v := nI (i3 + 5)) (ls' := [some (.ref b), some (.ref (wA w (x))), some (.ref (wA w (m))), some (.int (nI (i3 + 5)))]) C (dtL_14 (1078, .iinc 3 5, 3) (mg 12 rfl)) rfl (nI_add (i3) 5) rfl ?_
            refine X_goto (tgt := 18) C (dtL_14 (1081, .goto (-1063), 3) (mg 13 rfl)) (by decide) ?_
            refine X_eq (ls' := [some (.ref b), some (.ref (wA w (x))), some (.ref (wA w (m))), some (.int (nI (i3 + 5)))]) (st' := []) (h' := H34) (g' := G35) rfl rfl rfl rfl ?_
            exact ih18 (i3 + 5) (H34) (G35) (by omega) (Or.inr (by omega)) (by omega)
          · skip
            exact absurd heq_ q37
        · refine X_swIn (tgt := 309) C (dtL_0 (32, .tableswitch 1046 0 33 #[152, 185, 208, 241, 264, 277, 290, 323, 346, 369, 392, 405, 438, 471, 504, 527, 560, 593, 646, 669, 692, 735, 758, 771, 784, 817, 850, 883, 916, 940, 963, 986, 1009, 1032], 152) (mg 21 rfl)) (5) (by rw [q2]; decide) (by decide) (by decide) rfl (by decide) ?_
          refine X_aload_n C 1 (dtL_2 (309, .aload_n 1, 1) (mg 17 rfl)) rfl rfl ?_
          refine X_cV (As := []) (st := []) C (post := _) (x) (by omega) hC.2.1 rfl (cx_X7_read hw hC hs hz (B := hp18 (m + 9)) (nt := nt) hnt hp18 gp18 hJ.1.1 htx (fun i hi => hJ.2.1 i (by omega))) kL_36 (by decide) (by decide) rfl rfl (Nat.le_of_ble_eq_true rfl) (dtL_2 (310, .invokevirtual 36, 3) (mg 18 rfl)) rfl (fun v40 H38 G39 hv40 => ?_)
          have hv1_ := hv40
          have hk1_ := cKp_read hv1_.2.1 hv1_.2.2.1
          obtain ⟨y1_, rfl⟩ : isI _ := ⟨_, hv1_.1⟩
          show X k w _ 313 [some (.ref b), some (.ref (wA w (x))), some (.ref (wA w (m))), some (.int (nI (i3)))] [.int (y1_)] H38 G39
          have hMk := J_1 hxm hJ.1 hk1_
          obtain ⟨⟨⟨nu, hnu, eu⟩, ⟨c0, hc0, hat⟩, -⟩, ⟨⟨ms, hms, ese⟩, ⟨mm, hmm, ema⟩⟩, -, ⟨mt, hmt, etx⟩⟩ := id hMk
          refine X_aload_n C 2 (dtL_2 (313, .aload_n 2, 1) (mg 19 rfl)) rfl rfl ?_
          refine X_cV (As := []) (st := [.int (y1_)]) C (post := _) (m) (by omega) hM.2.1 rfl (cx_X8_read hw hM (B := hp18 (m + 9)) (n := nt) hnt H38 G39 ((hk1_.1 _ _ (by omega)).trans (hJ.1.2.2.1.symm.trans htx)) (fun i hi => hk1_.1 _ _ (by omega)) hMk) kL_39 (by decide) (by decide) rfl rfl (Nat.le_of_ble_eq_true rfl) (dtL_2 (314, .invokevirtual 39, 3) (mg 20 rfl)) rfl (fun v43 H41 G42 hv43 => ?_)
          have hv2_ := hv43
          obtain ⟨y2_, rfl⟩ := (show isI _ from ⟨_, hv2_.1⟩)
          obtain ⟨hJ2_, hvv_⟩ := JX_read hxm hJ hv1_ hv2_
          have heq_ : y1_ = y2_ := by injection hvv_ with z; injection z
          show X k w _ 317 [some (.ref b), some (.ref (wA w (x))), some (.ref (wA w (m))), some (.int (nI (i3)))] [.int (y2_), .int (y1_)] H41 G42
          refine X_icmp_eq (tgt := 1078) C (dtL_2 (317, .if_icmp .eq 761, 3) (mg 21 rfl)) (by decide) (fun q44 => ?_) (fun q44 => ?_)
          · skip
            refine X_iinc (v := nI (i3 + 5)) (ls' := [some (.ref b), some (.ref (wA w (x))), some (.ref (wA w (m))), some (.int (nI (i3 + 5)))]) C (dtL_14 (1078, .iinc 3 5, 3) (mg 12 rfl)) rfl (nI_add (i3) 5) rfl ?_
            refine X_goto (tgt := 18) C (dtL_14 (1081, .goto (-1063), 3) (mg 13 rfl)) (by decide) ?_
            refine X_eq (ls' := [some (.ref b), some (.ref (wA w (x))), some (.ref (wA w (m))), some (.int (nI (i3 + 5)))]) (st' := []) (h' := H41) (g' := G42) rfl rfl rfl rfl ?_
            exact ih18 (i3 + 5) (H41) (G42) (by omega) (Or.inr (by omega)) (by omega)
          · skip
            exact absurd heq_ q44
        · refine X_swIn (tgt := 322) C (dtL_0 (32, .tableswitch 1046 0 33 #[152, 185, 208, 241, 264, 277, 290, 323, 346, 369, 392, 405, 438, 471, 504, 527, 560, 593, 646, 669, 692, 735, 758, 771, 784, 817, 850, 883, 916, 940, 963, 986, 1009, 1032], 152) (mg 21 rfl)) (6) (by rw [q2]; decide) (by decide) (by decide) rfl (by decide) ?_
          refine X_aload_n C 1 (dtL_2 (322, .aload_n 1, 1) (mg 24 rfl)) rfl rfl ?_
          refine X_aload_n C 0 (dtL_2 (323, .aload_n 0, 1) (mg 25 rfl)) rfl rfl ?_
          refine X_iload_n C 3 (dtL_2 (324, .iload_n 3, 1) (mg 26 rfl)) rfl rfl ?_
          refine X_iconst (v := nI (1)) C (dtL_2 (325, .iconst 1, 1) (mg 27 rfl)) (by decide) ?_
          refine X_iadd C (dtL_2 (326, .iadd, 1) (mg 28 rfl)) ?_
          refine X_ti (y := nI (i3 + 1)) (nI_add (i3) (1)) ?_
          refine X_sld (v := xs (i3 + 1)) C hSc (vp_in_nI (by omega) (by omega)) (dtL_2 (327, .iaload, 1) (mg 29 rfl)) (by rw [nI_clamp (by omega)]) ?_
          refine X_aload_n C 0 (dtL_2 (328, .aload_n 0, 1) (mg 30 rfl)) rfl rfl ?_
          refine X_iload_n C 3 (dtL_2 (329, .iload_n 3, 1) (mg 31 rfl)) rfl rfl ?_
          refine X_iconst (v := nI (2)) C (dtL_2 (330, .iconst 2, 1) (mg 32 rfl)) (by decide) ?_
          refine X_iadd C (dtL_2 (331, .iadd, 1) (mg 33 rfl)) ?_
          refine X_ti (y := nI (i3 + 2)) (nI_add (i3) (2)) ?_
          refine X_sld (v := xs (i3 + 2)) C hSc (vp_in_nI (by omega) (by omega)) (dtL_2 (332, .iaload, 1) (mg 34 rfl)) (by rw [nI_clamp (by omega)]) ?_
          refine X_cV (As := [.int (xs (i3 + 1)), .int (xs (i3 + 2))]) (st := []) C (post := _) (x) (by omega) hC.2.1 rfl (cx_X7_says hw hC (xs (i3 + 1)) (xs (i3 + 2)) hp18 gp18 hCF) kL_40 (by decide) (by decide) rfl rfl (Nat.le_of_ble_eq_true rfl) (dtL_2 (333, .invokevirtual 40, 3) (mg 35 rfl)) rfl (fun v47 H45 G46 hv47 => ?_)
          obtain ⟨e1_, hf1_⟩ := hv47
          obtain ⟨y1_, rfl⟩ : isI _ := ⟨_, e1_⟩
          show X k w _ 336 [some (.ref b), some (.ref (wA w (x))), some (.ref (wA w (m))), some (.int (nI (i3)))] [.int (y1_)] H45 G46
          have hMF1 := mFr_k (fun q i z => hf1_ q i (by omega)) hMF
          refine X_aload_n C 2 (dtL_2 (336, .aload_n 2, 1) (mg 36 rfl)) rfl rfl ?_
          refine X_aload_n C 0 (dtL_2 (337, .aload_n 0, 1) (mg 37 rfl)) rfl rfl ?_
          refine X_iload_n C 3 (dtL_2 (338, .iload_n 3, 1) (mg 38 rfl)) rfl rfl ?_
          refine X_iconst (v := nI (1)) C (dtL_2 (339, .iconst 1, 1) (mg 39 rfl)) (by decide) ?_
          refine X_iadd C (dtL_2 (340, .iadd, 1) (mg 40 rfl)) ?_
          refine X_ti (y := nI (i3 + 1)) (nI_add (i3) (1)) ?_
          refine X_sld (v := xs (i3 + 1)) C hSc (vp_in_nI (by omega) (by omega)) (dtL_2 (341, .iaload, 1) (mg 41 rfl)) (by rw [nI_clamp (by omega)]) ?_
          refine X_aload_n C 0 (dtL_2 (342, .aload_n 0, 1) (mg 42 rfl)) rfl rfl ?_
          refine X_iload_n C 3 (dtL_2 (343, .iload_n 3, 1) (mg 43 rfl)) rfl rfl ?_
          refine X_iconst (v := nI (2)) C (dtL_2 (344, .iconst 2, 1) (mg 44 rfl)) (by decide) ?_
          refine X_iadd C (dtL_2 (345, .iadd, 1) (mg 45 rfl)) ?_
          refine X_ti (y := nI (i3 + 2)) (nI_add (i3) (2)) ?_
          refine X_sld (v := xs (i3 + 2)) C hSc (vp_in_nI (by omega) (by omega)) (dtL_2 (346, .iaload, 1) (mg 46 rfl)) (by rw [nI_clamp (by omega)]) ?_
          refine X_cV (As := [.int (xs (i3 + 1)), .int (xs (i3 + 2))]) (st := [.int (y1_)]) C (post := _) (m) (by omega) hM.2.1 rfl (ct_X8_says hw hM (xs (i3 + 1)) (xs (i3 + 2)) (n := 0) (by omega) H45 G46 (hMF1.1 2 (by omega))) kL_43 (by decide) (by decide) rfl rfl (Nat.le_of_ble_eq_true rfl) (dtL_2 (347, .invokevirtual 43, 3) (mg 47 rfl)) rfl (fun v50 H48 G49 hv50 => ?_)
          have e2_ := rf_says hMF1 hv50
          obtain ⟨y2_, rfl⟩ : isI _ := ⟨_, e2_⟩
          have heq_ : y1_ = y2_ := by (have z := e1_.trans e2_.symm; injection z with z; injection z)
          show X k w _ 350 [some (.ref b), some (.ref (wA w (x))), some (.ref (wA w (m))), some (.int (nI (i3)))] [.int (y2_), .int (y1_)] H48 G49
          refine X_icmp_eq (tgt := 1078) C (dtL_2 (350, .if_icmp .eq 728, 3) (mg 48 rfl)) (by decide) (fun q51 => ?_) (fun q51 => ?_)
          · skip
            refine X_iinc (v := nI (i3 + 5)) (ls' := [some (.ref b), some (.ref (wA w (x))), some (.ref (wA w (m))), some (.int (nI (i3 + 5)))]) C (dtL_14 (1078, .iinc 3 5, 3) (mg 12 rfl)) rfl (nI_add (i3) 5) rfl ?_
            refine X_goto (tgt := 18) C (dtL_14 (1081, .goto (-1063), 3) (mg 13 rfl)) (by decide) ?_
            refine X_eq (ls' := [some (.ref b), some (.ref (wA w (x))), some (.ref (wA w (m))), some (.int (nI (i3 + 5)))]) (st' := []) (h' := H48) (g' := G49) rfl rfl rfl rfl ?_
            exact ih18 (i3 + 5) (H48) (G49) (by omega) (Or.inr (by omega)) (by omega)
          · skip
            exact absurd heq_ q51
        · refine X_swIn (tgt := 355) C (dtL_0 (32, .tableswitch 1046 0 33 #[152, 185, 208, 241, 264, 277, 290, 323, 346, 369, 392, 405, 438, 471, 504, 527, 560, 593, 646, 669, 692, 735, 758, 771, 784, 817, 850, 883, 916, 940, 963, 986, 1009, 1032], 152) (mg 21 rfl)) (7) (by rw [q2]; decide) (by decide) (by decide) rfl (by decide) ?_
          refine X_aload_n C 1 (dtL_3 (355, .aload_n 1, 1) (mg 1 rfl)) rfl rfl ?_
          refine X_aload_n C 0 (dtL_3 (356, .aload_n 0, 1) (mg 2 rfl)) rfl rfl ?_
          refine X_iload_n C 3 (dtL_3 (357, .iload_n 3, 1) (mg 3 rfl)) rfl rfl ?_
          refine X_iconst (v := nI (1)) C (dtL_3 (358, .iconst 1, 1) (mg 4 rfl)) (by decide) ?_
          refine X_iadd C (dtL_3 (359, .iadd, 1) (mg 5 rfl)) ?_
          refine X_ti (y := nI (i3 + 1)) (nI_add (i3) (1)) ?_
          refine X_sld (v := xs (i3 + 1)) C hSc (vp_in_nI (by omega) (by omega)) (dtL_3 (360, .iaload, 1) (mg 6 rfl)) (by rw [nI_clamp (by omega)]) ?_
          refine X_cV (As := [.int (xs (i3 + 1))]) (st := []) C (post := _) (x) (by omega) hC.2.1 rfl (cx_X7_drags hw hC (xs (i3 + 1)) hp18 gp18 hCF) kL_44 (by decide) (by decide) rfl rfl (Nat.le_of_ble_eq_true rfl) (dtL_3 (361, .invokevirtual 44, 3) (mg 7 rfl)) rfl (fun v54 H52 G53 hv54 => ?_)
          obtain ⟨e1_, hf1_⟩ := hv54
          obtain ⟨y1_, rfl⟩ : isI _ := ⟨_, e1_⟩
          show X k w _ 364 [some (.ref b), some (.ref (wA w (x))), some (.ref (wA w (m))), some (.int (nI (i3)))] [.int (y1_)] H52 G53
          have hMF1 := mFr_k (fun q i z => hf1_ q i (by omega)) hMF
          refine X_aload_n C 2 (dtL_3 (364, .aload_n 2, 1) (mg 8 rfl)) rfl rfl ?_
          refine X_aload_n C 0 (dtL_3 (365, .aload_n 0, 1) (mg 9 rfl)) rfl rfl ?_
          refine X_iload_n C 3 (dtL_3 (366, .iload_n 3, 1) (mg 10 rfl)) rfl rfl ?_
          refine X_iconst (v := nI (1)) C (dtL_3 (367, .iconst 1, 1) (mg 11 rfl)) (by decide) ?_
          refine X_iadd C (dtL_3 (368, .iadd, 1) (mg 12 rfl)) ?_
          refine X_ti (y := nI (i3 + 1)) (nI_add (i3) (1)) ?_
          refine X_sld (v := xs (i3 + 1)) C hSc (vp_in_nI (by omega) (by omega)) (dtL_3 (369, .iaload, 1) (mg 13 rfl)) (by rw [nI_clamp (by omega)]) ?_
          refine X_cV (As := [.int (xs (i3 + 1))]) (st := [.int (y1_)]) C (post := _) (m) (by omega) hM.2.1 rfl (ct_X8_drags hw hM (xs (i3 + 1)) (n := 0) (by omega) (p := 0) (by omega) H52 G53 (hMF1.1 2 (by omega)) (hMF1.1 28 (by omega))) kL_47 (by decide) (by decide) rfl rfl (Nat.le_of_ble_eq_true rfl) (dtL_3 (370, .invokevirtual 47, 3) (mg 14 rfl)) rfl (fun v57 H55 G56 hv57 => ?_)
          have e2_ := rf_drags hMF1 hv57
          obtain ⟨y2_, rfl⟩ : isI _ := ⟨_, e2_⟩
          have heq_ : y1_ = y2_ := by (have z := e1_.trans e2_.symm; injection z with z; injection z)
          show X k w _ 373 [some (.ref b), some (.ref (wA w (x))), some (.ref (wA w (m))), some (.int (nI (i3)))] [.int (y2_), .int (y1_)] H55 G56
          refine X_icmp_eq (tgt := 1078) C (dtL_3 (373, .if_icmp .eq 705, 3) (mg 15 rfl)) (by decide) (fun q58 => ?_) (fun q58 => ?_)
          · skip
            refine X_iinc (v := nI (i3 + 5)) (ls' := [some (.ref b), some (.ref (wA w (x))), some (.ref (wA w (m))), some (.int (nI (i3 + 5)))]) C (dtL_14 (1078, .iinc 3 5, 3) (mg 12 rfl)) rfl (nI_add (i3) 5) rfl ?_
            refine X_goto (tgt := 18) C (dtL_14 (1081, .goto (-1063), 3) (mg 13 rfl)) (by decide) ?_
            refine X_eq (ls' := [some (.ref b), some (.ref (wA w (x))), some (.ref (wA w (m))), some (.int (nI (i3 + 5)))]) (st' := []) (h' := H55) (g' := G56) rfl rfl rfl rfl ?_
            exact ih18 (i3 + 5) (H55) (G56) (by omega) (Or.inr (by omega)) (by omega)
          · skip
            exact absurd heq_ q58
        · refine X_swIn (tgt := 378) C (dtL_0 (32, .tableswitch 1046 0 33 #[152, 185, 208, 241, 264, 277, 290, 323, 346, 369, 392, 405, 438, 471, 504, 527, 560, 593, 646, 669, 692, 735, 758, 771, 784, 817, 850, 883, 916, 940, 963, 986, 1009, 1032], 152) (mg 21 rfl)) (8) (by rw [q2]; decide) (by decide) (by decide) rfl (by decide) ?_
          refine X_aload_n C 1 (dtL_3 (378, .aload_n 1, 1) (mg 18 rfl)) rfl rfl ?_
          refine X_aload_n C 0 (dtL_3 (379, .aload_n 0, 1) (mg 19 rfl)) rfl rfl ?_
          refine X_iload_n C 3 (dtL_3 (380, .iload_n 3, 1) (mg 20 rfl)) rfl rfl ?_
          refine X_iconst (v := nI (1)) C (dtL_3 (381, .iconst 1, 1) (mg 21 rfl)) (by decide) ?_
          refine X_iadd C (dtL_3 (382, .iadd, 1) (mg 22 rfl)) ?_
          refine X_ti (y := nI (i3 + 1)) (nI_add (i3) (1)) ?_
          refine X_sld (v := xs (i3 + 1)) C hSc (vp_in_nI (by omega) (by omega)) (dtL_3 (383, .iaload, 1) (mg 23 rfl)) (by rw [nI_clamp (by omega)]) ?_
          refine X_cV (As := [.int (xs (i3 + 1))]) (st := []) C (post := _) (x) (by omega) hC.2.1 rfl (cx_X7_reaps hw hC (xs (i3 + 1)) hp18 gp18 hCF) kL_48 (by decide) (by decide) rfl rfl (Nat.le_of_ble_eq_true rfl) (dtL_3 (384, .invokevirtual 48, 3) (mg 24 rfl)) rfl (fun v61 H59 G60 hv61 => ?_)
          obtain ⟨e1_, hf1_⟩ := hv61
          obtain ⟨y1_, rfl⟩ : isI _ := ⟨_, e1_⟩
          show X k w _ 387 [some (.ref b), some (.ref (wA w (x))), some (.ref (wA w (m))), some (.int (nI (i3)))] [.int (y1_)] H59 G60
          have hMF1 := mFr_k (fun q i z => hf1_ q i (by omega)) hMF
          refine X_aload_n C 2 (dtL_3 (387, .aload_n 2, 1) (mg 25 rfl)) rfl rfl ?_
          refine X_aload_n C 0 (dtL_3 (388, .aload_n 0, 1) (mg 26 rfl)) rfl rfl ?_
          refine X_iload_n C 3 (dtL_3 (389, .iload_n 3, 1) (mg 27 rfl)) rfl rfl ?_
          refine X_iconst (v := nI (1)) C (dtL_3 (390, .iconst 1, 1) (mg 28 rfl)) (by decide) ?_
          refine X_iadd C (dtL_3 (391, .iadd, 1) (mg 29 rfl)) ?_
          refine X_ti (y := nI (i3 + 1)) (nI_add (i3) (1)) ?_
          refine X_sld (v := xs (i3 + 1)) C hSc (vp_in_nI (by omega) (by omega)) (dtL_3 (392, .iaload, 1) (mg 30 rfl)) (by rw [nI_clamp (by omega)]) ?_
          refine X_cV (As := [.int (xs (i3 + 1))]) (st := [.int (y1_)]) C (post := _) (m) (by omega) hM.2.1 rfl (ct_X8_reaps hw hM (xs (i3 + 1)) (n := 0) (by omega) H59 G60 (hMF1.1 2 (by omega))) kL_51 (by decide) (by decide) rfl rfl (Nat.le_of_ble_eq_true rfl) (dtL_3 (393, .invokevirtual 51, 3) (mg 31 rfl)) rfl (fun v64 H62 G63 hv64 => ?_)
          have e2_ := rf_reaps hMF1 hv64
          obtain ⟨y2_, rfl⟩ : isI _ := ⟨_, e2_⟩
          have heq_ : y1_ = y2_ := by (have z := e1_.trans e2_.symm; injection z with z; injection z)
          show X k w _ 396 [some (.ref b), some (.ref (wA w (x))), some (.ref (wA w (m))), some (.int (nI (i3)))] [.int (y2_), .int (y1_)] H62 G63
          refine X_icmp_eq (tgt := 1078) C (dtL_3 (396, .if_icmp .eq 682, 3) (mg 32 rfl)) (by decide) (fun q65 => ?_) (fun q65 => ?_)
          · skip
            refine X_iinc (v := nI (i3 + 5)) (ls' := [some (.ref b), some (.ref (wA w (x))), some (.ref (wA w (m))), some (.int (nI (i3 + 5)))]) C (dtL_14 (1078, .iinc 3 5, 3) (mg 12 rfl)) rfl (nI_add (i3) 5) rfl ?_
            refine X_goto (tgt := 18) C (dtL_14 (1081, .goto (-1063), 3) (mg 13 rfl)) (by decide) ?_
            refine X_eq (ls' := [some (.ref b), some (.ref (wA w (x))), some (.ref (wA w (m))), some (.int (nI (i3 + 5)))]) (st' := []) (h' := H62) (g' := G63) rfl rfl rfl rfl ?_
            exact ih18 (i3 + 5) (H62) (G63) (by omega) (Or.inr (by omega)) (by omega)
          · skip
            exact absurd heq_ q65
        · refine X_swIn (tgt := 401) C (dtL_0 (32, .tableswitch 1046 0 33 #[152, 185, 208, 241, 264, 277, 290, 323, 346, 369, 392, 405, 438, 471, 504, 527, 560, 593, 646, 669, 692, 735, 758, 771, 784, 817, 850, 883, 916, 940, 963, 986, 1009, 1032], 152) (mg 21 rfl)) (9) (by rw [q2]; decide) (by decide) (by decide) rfl (by decide) ?_
          refine X_aload_n C 1 (dtL_3 (401, .aload_n 1, 1) (mg 35 rfl)) rfl rfl ?_
          refine X_aload_n C 0 (dtL_3 (402, .aload_n 0, 1) (mg 36 rfl)) rfl rfl ?_
          refine X_iload_n C 3 (dtL_3 (403, .iload_n 3, 1) (mg 37 rfl)) rfl rfl ?_
          refine X_iconst (v := nI (1)) C (dtL_3 (404, .iconst 1, 1) (mg 38 rfl)) (by decide) ?_
          refine X_iadd C (dtL_3 (405, .iadd, 1) (mg 39 rfl)) ?_
          refine X_ti (y := nI (i3 + 1)) (nI_add (i3) (1)) ?_
          refine X_sld (v := xs (i3 + 1)) C hSc (vp_in_nI (by omega) (by omega)) (dtL_3 (406, .iaload, 1) (mg 40 rfl)) (by rw [nI_clamp (by omega)]) ?_
          refine X_cV (As := [.int (xs (i3 + 1))]) (st := []) C (post := _) (x) (by omega) hC.2.1 rfl (cx_X7_weeks hw hC (xs (i3 + 1)) hp18 gp18 hCF) kL_52 (by decide) (by decide) rfl rfl (Nat.le_of_ble_eq_true rfl) (dtL_3 (407, .invokevirtual 52, 3) (mg 41 rfl)) rfl (fun v68 H66 G67 hv68 => ?_)
          obtain ⟨e1_, hf1_⟩ := hv68
          obtain ⟨y1_, rfl⟩ : isI _ := ⟨_, e1_⟩
          show X k w _ 410 [some (.ref b), some (.ref (wA w (x))), some (.ref (wA w (m))), some (.int (nI (i3)))] [.int (y1_)] H66 G67
          have hMF1 := mFr_k (fun q i z => hf1_ q i (by omega)) hMF
          refine X_aload_n C 2 (dtL_3 (410, .aload_n 2, 1) (mg 42 rfl)) rfl rfl ?_
          refine X_aload_n C 0 (dtL_3 (411, .aload_n 0, 1) (mg 43 rfl)) rfl rfl ?_
          refine X_iload_n C 3 (dtL_3 (412, .iload_n 3, 1) (mg 44 rfl)) rfl rfl ?_
          refine X_iconst (v := nI (1)) C (dtL_3 (413, .iconst 1, 1) (mg 45 rfl)) (by decide) ?_
          refine X_iadd C (dtL_3 (414, .iadd, 1) (mg 46 rfl)) ?_
          refine X_ti (y := nI (i3 + 1)) (nI_add (i3) (1)) ?_
          refine X_sld (v := xs (i3 + 1)) C hSc (vp_in_nI (by omega) (by omega)) (dtL_3 (415, .iaload, 1) (mg 47 rfl)) (by rw [nI_clamp (by omega)]) ?_
          refine X_cV (As := [.int (xs (i3 + 1))]) (st := [.int (y1_)]) C (post := _) (m) (by omega) hM.2.1 rfl (ct_X8_weeks hw hM (xs (i3 + 1)) (n := 0) (by omega) H66 G67 (hMF1.1 2 (by omega))) kL_55 (by decide) (by decide) rfl rfl (Nat.le_of_ble_eq_true rfl) (dtL_3 (416, .invokevirtual 55, 3) (mg 48 rfl)) rfl (fun v71 H69 G70 hv71 => ?_)
          have e2_ := rf_weeks hMF1 hv71
          obtain ⟨y2_, rfl⟩ : isI _ := ⟨_, e2_⟩
          have heq_ : y1_ = y2_ := by (have z := e1_.trans e2_.symm; injection z with z; injection z)
          show X k w _ 419 [some (.ref b), some (.ref (wA w (x))), some (.ref (wA w (m))), some (.int (nI (i3)))] [.int (y2_), .int (y1_)] H69 G70
          refine X_icmp_eq (tgt := 1078) C (dtL_3 (419, .if_icmp .eq 659, 3) (mg 49 rfl)) (by decide) (fun q72 => ?_) (fun q72 => ?_)
          · skip
            refine X_iinc (v := nI (i3 + 5)) (ls' := [some (.ref b), some (.ref (wA w (x))), some (.ref (wA w (m))), some (.int (nI (i3 + 5)))]) C (dtL_14 (1078, .iinc 3 5, 3) (mg 12 rfl)) rfl (nI_add (i3) 5) rfl ?_
            refine X_goto (tgt := 18) C (dtL_14 (1081, .goto (-1063), 3) (mg 13 rfl)) (by decide) ?_
            refine X_eq (ls' := [some (.ref b), some (.ref (wA w (x))), some (.ref (wA w (m))), some (.int (nI (i3 + 5)))]) (st' := []) (h' := H69) (g' := G70) rfl rfl rfl rfl ?_
            exact ih18 (i3 + 5) (H69) (G70) (by omega) (Or.inr (by omega)) (by omega)
          · skip
            exact absurd heq_ q72
        · refine X_swIn (tgt := 424) C (dtL_0 (32, .tableswitch 1046 0 33 #[152, 185, 208, 241, 264, 277, 290, 323, 346, 369, 392, 405, 438, 471, 504, 527, 560, 593, 646, 669, 692, 735, 758, 771, 784, 817, 850, 883, 916, 940, 963, 986, 1009, 1032], 152) (mg 21 rfl)) (10) (by rw [q2]; decide) (by decide) (by decide) rfl (by decide) ?_
          refine X_aload_n C 1 (dtL_4 (424, .aload_n 1, 1) (mg 2 rfl)) rfl rfl ?_
          refine X_cV (As := []) (st := []) C (post := _) (x) (by omega) hC.2.1 rfl (cx_X7_undo hw hC  hp18 gp18 hCF) kL_56 (by decide) (by decide) rfl rfl (Nat.le_of_ble_eq_true rfl) (dtL_4 (425, .invokevirtual 56, 3) (mg 3 rfl)) rfl (fun v75 H73 G74 hv75 => ?_)
          obtain ⟨e1_, hf1_⟩ := hv75
          obtain ⟨y1_, rfl⟩ : isI _ := ⟨_, e1_⟩
          show X k w _ 428 [some (.ref b), some (.ref (wA w (x))), some (.ref (wA w (m))), some (.int (nI (i3)))] [.int (y1_)] H73 G74
          have hMF1 := mFr_k (fun q i z => hf1_ q i (by omega)) hMF
          refine X_aload_n C 2 (dtL_4 (428, .aload_n 2, 1) (mg 4 rfl)) rfl rfl ?_
          refine X_cV (As := []) (st := [.int (y1_)]) C (post := _) (m) (by omega) hM.2.1 rfl (ct_X8_undo hw hM  (n := 0) (by omega) H73 G74 (hMF1.1 2 (by omega))) kL_59 (by decide) (by decide) rfl rfl (Nat.le_of_ble_eq_true rfl) (dtL_4 (429, .invokevirtual 59, 3) (mg 5 rfl)) rfl (fun v78 H76 G77 hv78 => ?_)
          have e2_ := rf_undo hMF1 hv78
          obtain ⟨y2_, rfl⟩ : isI _ := ⟨_, e2_⟩
          have heq_ : y1_ = y2_ := by (have z := e1_.trans e2_.symm; injection z with z; injection z)
          show X k w _ 432 [some (.ref b), some (.ref (wA w (x))), some (.ref (wA w (m))), some (.int (nI (i3)))] [.int (y2_), .int (y1_)] H76 G77
          refine X_icmp_eq (tgt := 1078) C (dtL_4 (432, .if_icmp .eq 646, 3) (mg 6 rfl)) (by decide) (fun q79 => ?_) (fun q79 => ?_)
          · skip
            refine X_iinc (v := nI (i3 + 5)) (ls' := [some (.ref b), some (.ref (wA w (x))), some (.ref (wA w (m))), some (.int (nI (i3 + 5)))]) C (dtL_14 (1078, .iinc 3 5, 3) (mg 12 rfl)) rfl (nI_add (i3) 5) rfl ?_
            refine X_goto (tgt := 18) C (dtL_14 (1081, .goto (-1063), 3) (mg 13 rfl)) (by decide) ?_
            refine X_eq (ls' := [some (.ref b), some (.ref (wA w (x))), some (.ref (wA w (m))), some (.int (nI (i3 + 5)))]) (st' := []) (h' := H76) (g' := G77) rfl rfl rfl rfl ?_
            exact ih18 (i3 + 5) (H76) (G77) (by omega) (Or.inr (by omega)) (by omega)
          · skip
            exact absurd heq_ q79
        · refine X_swIn (tgt := 437) C (dtL_0 (32, .tableswitch 1046 0 33 #[152, 185, 208, 241, 264, 277, 290, 323, 346, 369, 392, 405, 438, 471, 504, 527, 560, 593, 646, 669, 692, 735, 758, 771, 784, 817, 850, 883, 916, 940, 963, 986, 1009, 1032], 152) (mg 21 rfl)) (11) (by rw [q2]; decide) (by decide) (by decide) rfl (by decide) ?_
          refine X_aload_n C 1 (dtL_4 (437, .aload_n 1, 1) (mg 9 rfl)) rfl rfl ?_
          refine X_aload_n C 0 (dtL_4 (438, .aload_n 0, 1) (mg 10 rfl)) rfl rfl ?_
          refine X_iload_n C 3 (dtL_4 (439, .iload_n 3, 1) (mg 11 rfl)) rfl rfl ?_
          refine X_iconst (v := nI (1)) C (dtL_4 (440, .iconst 1, 1) (mg 12 rfl)) (by decide) ?_
          refine X_iadd C (dtL_4 (441, .iadd, 1) (mg 13 rfl)) ?_
          refine X_ti (y := nI (i3 + 1)) (nI_add (i3) (1)) ?_
          refine X_sld (v := xs (i3 + 1)) C hSc (vp_in_nI (by omega) (by omega)) (dtL_4 (442, .iaload, 1) (mg 14 rfl)) (by rw [nI_clamp (by omega)]) ?_
          refine X_aload_n C 0 (dtL_4 (443, .aload_n 0, 1) (mg 15 rfl)) rfl rfl ?_
          refine X_iload_n C 3 (dtL_4 (444, .iload_n 3, 1) (mg 16 rfl)) rfl rfl ?_
          refine X_iconst (v := nI (2)) C (dtL_4 (445, .iconst 2, 1) (mg 17 rfl)) (by decide) ?_
          refine X_iadd C (dtL_4 (446, .iadd, 1) (mg 18 rfl)) ?_
          refine X_ti (y := nI (i3 + 2)) (nI_add (i3) (2)) ?_
          refine X_sld (v := xs (i3 + 2)) C hSc (vp_in_nI (by omega) (by omega)) (dtL_4 (447, .iaload, 1) (mg 19 rfl)) (by rw [nI_clamp (by omega)]) ?_
          refine X_cV (As := [.int (xs (i3 + 1)), .int (xs (i3 + 2))]) (st := []) C (post := _) (x) (by omega) hC.2.1 rfl (cx_X7_of hw hC (xs (i3 + 1)) (xs (i3 + 2)) hp18 gp18 hCF) kL_60 (by decide) (by decide) rfl rfl (Nat.le_of_ble_eq_true rfl) (dtL_4 (448, .invokevirtual 60, 3) (mg 20 rfl)) rfl (fun v82 H80 G81 hv82 => ?_)
          obtain ⟨e1_, hf1_⟩ := hv82
          obtain ⟨y1_, rfl⟩ : isI _ := ⟨_, e1_⟩
          show X k w _ 451 [some (.ref b), some (.ref (wA w (x))), some (.ref (wA w (m))), some (.int (nI (i3)))] [.int (y1_)] H80 G81
          have hMF1 := mFr_k (fun q i z => hf1_ q i (by omega)) hMF
          refine X_aload_n C 2 (dtL_4 (451, .aload_n 2, 1) (mg 21 rfl)) rfl rfl ?_
          refine X_aload_n C 0 (dtL_4 (452, .aload_n 0, 1) (mg 22 rfl)) rfl rfl ?_
          refine X_iload_n C 3 (dtL_4 (453, .iload_n 3, 1) (mg 23 rfl)) rfl rfl ?_
          refine X_iconst (v := nI (1)) C (dtL_4 (454, .iconst 1, 1) (mg 24 rfl)) (by decide) ?_
          refine X_iadd C (dtL_4 (455, .iadd, 1) (mg 25 rfl)) ?_
          refine X_ti (y := nI (i3 + 1)) (nI_add (i3) (1)) ?_
          refine X_sld (v := xs (i3 + 1)) C hSc (vp_in_nI (by omega) (by omega)) (dtL_4 (456, .iaload, 1) (mg 26 rfl)) (by rw [nI_clamp (by omega)]) ?_
          refine X_aload_n C 0 (dtL_4 (457, .aload_n 0, 1) (mg 27 rfl)) rfl rfl ?_
          refine X_iload_n C 3 (dtL_4 (458, .iload_n 3, 1) (mg 28 rfl)) rfl rfl ?_
          refine X_iconst (v := nI (2)) C (dtL_4 (459, .iconst 2, 1) (mg 29 rfl)) (by decide) ?_
          refine X_iadd C (dtL_4 (460, .iadd, 1) (mg 30 rfl)) ?_
          refine X_ti (y := nI (i3 + 2)) (nI_add (i3) (2)) ?_
          refine X_sld (v := xs (i3 + 2)) C hSc (vp_in_nI (by omega) (by omega)) (dtL_4 (461, .iaload, 1) (mg 31 rfl)) (by rw [nI_clamp (by omega)]) ?_
          refine X_cV (As := [.int (xs (i3 + 1)), .int (xs (i3 + 2))]) (st := [.int (y1_)]) C (post := _) (m) (by omega) hM.2.1 rfl (ct_X8_of hw hM (xs (i3 + 1)) (xs (i3 + 2)) H80 G81) kL_63 (by decide) (by decide) rfl rfl (Nat.le_of_ble_eq_true rfl) (dtL_4 (462, .invokevirtual 63, 3) (mg 32 rfl)) rfl (fun v85 H83 G84 hv85 => ?_)
          have e2_ := rf_of hMF1 hv85
          obtain ⟨y2_, rfl⟩ : isI _ := ⟨_, e2_⟩
          have heq_ : y1_ = y2_ := by (have z := e1_.trans e2_.symm; injection z with z; injection z)
          show X k w _ 465 [some (.ref b), some (.ref (wA w (x))), some (.ref (wA w (m))), some (.int (nI (i3)))] [.int (y2_), .int (y1_)] H83 G84
          refine X_icmp_eq (tgt := 1078) C (dtL_4 (465, .if_icmp .eq 613, 3) (mg 33 rfl)) (by decide) (fun q86 => ?_) (fun q86 => ?_)
          · skip
            refine X_iinc (v := nI (i3 + 5)) (ls' := [some (.ref b), some (.ref (wA w (x))), some (.ref (wA w (m))), some (.int (nI (i3 + 5)))]) C (dtL_14 (1078, .iinc 3 5, 3) (mg 12 rfl)) rfl (nI_add (i3) 5) rfl ?_
            refine X_goto (tgt := 18) C (dtL_14 (1081, .goto (-1063), 3) (mg 13 rfl)) (by decide) ?_
            refine X_eq (ls' := [some (.ref b), some (.ref (wA w (x))), some (.ref (wA w (m))), some (.int (nI (i3 + 5)))]) (st' := []) (h' := H83) (g' := G84) rfl rfl rfl rfl ?_
            exact ih18 (i3 + 5) (H83) (G84) (by omega) (Or.inr (by omega)) (by omega)
          · skip
            exact absurd heq_ q86
        · refine X_swIn (tgt := 470) C (dtL_0 (32, .tableswitch 1046 0 33 #[152, 185, 208, 241, 264, 277, 290, 323, 346, 369, 392, 405, 438, 471, 504, 527, 560, 593, 646, 669, 692, 735, 758, 771, 784, 817, 850, 883, 916, 940, 963, 986, 1009, 1032], 152) (mg 21 rfl)) (12) (by rw [q2]; decide) (by decide) (by decide) rfl (by decide) ?_
          refine X_aload_n C 1 (dtL_4 (470, .aload_n 1, 1) (mg 36 rfl)) rfl rfl ?_
          refine X_aload_n C 0 (dtL_4 (471, .aload_n 0, 1) (mg 37 rfl)) rfl rfl ?_
          refine X_iload_n C 3 (dtL_4 (472, .iload_n 3, 1) (mg 38 rfl)) rfl rfl ?_
          refine X_iconst (v := nI (1)) C (dtL_4 (473, .iconst 1, 1) (mg 39 rfl)) (by decide) ?_
          refine X_iadd C (dtL_4 (474, .iadd, 1) (mg 40 rfl)) ?_
          refine X_ti (y := nI (i3 + 1)) (nI_add (i3) (1)) ?_
          refine X_sld (v := xs (i3 + 1)) C hSc (vp_in_nI (by omega) (by omega)) (dtL_4 (475, .iaload, 1) (mg 41 rfl)) (by rw [nI_clamp (by omega)]) ?_
          refine X_aload_n C 0 (dtL_4 (476, .aload_n 0, 1) (mg 42 rfl)) rfl rfl ?_
          refine X_iload_n C 3 (dtL_4 (477, .iload_n 3, 1) (mg 43 rfl)) rfl rfl ?_
          refine X_iconst (v := nI (2)) C (dtL_4 (478, .iconst 2, 1) (mg 44 rfl)) (by decide) ?_
          refine X_iadd C (dtL_4 (479, .iadd, 1) (mg 45 rfl)) ?_
          refine X_ti (y := nI (i3 + 2)) (nI_add (i3) (2)) ?_
          refine X_sld (v := xs (i3 + 2)) C hSc (vp_in_nI (by omega) (by omega)) (dtL_4 (480, .iaload, 1) (mg 46 rfl)) (by rw [nI_clamp (by omega)]) ?_
          refine X_cV (As := [.int (xs (i3 + 1)), .int (xs (i3 + 2))]) (st := []) C (post := _) (x) (by omega) hC.2.1 rfl (cx_X7_high hw hC (xs (i3 + 1)) (xs (i3 + 2)) hp18 gp18 hCF) kL_64 (by decide) (by decide) rfl rfl (Nat.le_of_ble_eq_true rfl) (dtL_4 (481, .invokevirtual 64, 3) (mg 47 rfl)) rfl (fun v89 H87 G88 hv89 => ?_)
          obtain ⟨e1_, hf1_⟩ := hv89
          obtain ⟨y1_, rfl⟩ : isI _ := ⟨_, e1_⟩
          show X k w _ 484 [some (.ref b), some (.ref (wA w (x))), some (.ref (wA w (m))), some (.int (nI (i3)))] [.int (y1_)] H87 G88
          have hMF1 := mFr_k (fun q i z => hf1_ q i (by omega)) hMF
          refine X_aload_n C 2 (dtL_4 (484, .aload_n 2, 1) (mg 48 rfl)) rfl rfl ?_
          refine X_aload_n C 0 (dtL_4 (485, .aload_n 0, 1) (mg 49 rfl)) rfl rfl ?_
          refine X_iload_n C 3 (dtL_5 (486, .iload_n 3, 1) (mg 0 rfl)) rfl rfl ?_
          refine X_iconst (v := nI (1)) C (dtL_5 (487, .iconst 1, 1) (mg 1 rfl)) (by decide) ?_
          refine X_iadd C (dtL_5 (488, .iadd, 1) (mg 2 rfl)) ?_
          refine X_ti (y := nI (i3 + 1)) (nI_add (i3) (1)) ?_
          refine X_sld (v := xs (i3 + 1)) C hSc (vp_in_nI (by omega) (by omega)) (dtL_5 (489, .iaload, 1) (mg 3 rfl)) (by rw [nI_clamp (by omega)]) ?_
          refine X_aload_n C 0 (dtL_5 (490, .aload_n 0, 1) (mg 4 rfl)) rfl rfl ?_
          refine X_iload_n C 3 (dtL_5 (491, .iload_n 3, 1) (mg 5 rfl)) rfl rfl ?_
          refine X_iconst (v := nI (2)) C (dtL_5 (492, .iconst 2, 1) (mg 6 rfl)) (by decide) ?_
          refine X_iadd C (dtL_5 (493, .iadd, 1) (mg 7 rfl)) ?_
          refine X_ti (y := nI (i3 + 2)) (nI_add (i3) (2)) ?_
          refine X_sld (v := xs (i3 + 2)) C hSc (vp_in_nI (by omega) (by omega)) (dtL_5 (494, .iaload, 1) (mg 8 rfl)) (by rw [nI_clamp (by omega)]) ?_
          refine X_cV (As := [.int (xs (i3 + 1)), .int (xs (i3 + 2))]) (st := [.int (y1_)]) C (post := _) (m) (by omega) hM.2.1 rfl (ct_X8_high hw hM (xs (i3 + 1)) (xs (i3 + 2)) H87 G88) kL_67 (by decide) (by decide) rfl rfl (Nat.le_of_ble_eq_true rfl) (dtL_5 (495, .invokevirtual 67, 3) (mg 9 rfl)) rfl (fun v92 H90 G91 hv92 => ?_)
          have e2_ := rf_high hMF1 hv92
          obtain ⟨y2_, rfl⟩ : isI _ := ⟨_, e2_⟩
          have heq_ : y1_ = y2_ := by (have z := e1_.trans e2_.symm; injection z with z; injection z)
          show X k w _ 498 [some (.ref b), some (.ref (wA w (x))), some (.ref (wA w (m))), some (.int (nI (i3)))] [.int (y2_), .int (y1_)] H90 G91
          refine X_icmp_eq (tgt := 1078) C (dtL_5 (498, .if_icmp .eq 580, 3) (mg 10 rfl)) (by decide) (fun q93 => ?_) (fun q93 => ?_)
          · skip
            refine X_iinc (v := nI (i3 + 5)) (ls' := [some (.ref b), some (.ref (wA w (x))), some (.ref (wA w (m))), some (.int (nI (i3 + 5)))]) C (dtL_14 (1078, .iinc 3 5, 3) (mg 12 rfl)) rfl (nI_add (i3) 5) rfl ?_
            refine X_goto (tgt := 18) C (dtL_14 (1081, .goto (-1063), 3) (mg 13 rfl)) (by decide) ?_
            refine X_eq (ls' := [some (.ref b), some (.ref (wA w (x))), some (.ref (wA w (m))), some (.int (nI (i3 + 5)))]) (st' := []) (h' := H90) (g' := G91) rfl rfl rfl rfl ?_
            exact ih18 (i3 + 5) (H90) (G91) (by omega) (Or.inr (by omega)) (by omega)
          · skip
            exact absurd heq_ q93
        · refine X_swIn (tgt := 503) C (dtL_0 (32, .tableswitch 1046 0 33 #[152, 185, 208, 241, 264, 277, 290, 323, 346, 369, 392, 405, 438, 471, 504, 527, 560, 593, 646, 669, 692, 735, 758, 771, 784, 817, 850, 883, 916, 940, 963, 986, 1009, 1032], 152) (mg 21 rfl)) (13) (by rw [q2]; decide) (by decide) (by decide) rfl (by decide) ?_
          refine X_aload_n C 1 (dtL_5 (503, .aload_n 1, 1) (mg 13 rfl)) rfl rfl ?_
          refine X_aload_n C 0 (dtL_5 (504, .aload_n 0, 1) (mg 14 rfl)) rfl rfl ?_
          refine X_iload_n C 3 (dtL_5 (505, .iload_n 3, 1) (mg 15 rfl)) rfl rfl ?_
          refine X_iconst (v := nI (1)) C (dtL_5 (506, .iconst 1, 1) (mg 16 rfl)) (by decide) ?_
          refine X_iadd C (dtL_5 (507, .iadd, 1) (mg 17 rfl)) ?_
          refine X_ti (y := nI (i3 + 1)) (nI_add (i3) (1)) ?_
          refine X_sld (v := xs (i3 + 1)) C hSc (vp_in_nI (by omega) (by omega)) (dtL_5 (508, .iaload, 1) (mg 18 rfl)) (by rw [nI_clamp (by omega)]) ?_
          refine X_aload_n C 0 (dtL_5 (509, .aload_n 0, 1) (mg 19 rfl)) rfl rfl ?_
          refine X_iload_n C 3 (dtL_5 (510, .iload_n 3, 1) (mg 20 rfl)) rfl rfl ?_
          refine X_iconst (v := nI (2)) C (dtL_5 (511, .iconst 2, 1) (mg 21 rfl)) (by decide) ?_
          refine X_iadd C (dtL_5 (512, .iadd, 1) (mg 22 rfl)) ?_
          refine X_ti (y := nI (i3 + 2)) (nI_add (i3) (2)) ?_
          refine X_sld (v := xs (i3 + 2)) C hSc (vp_in_nI (by omega) (by omega)) (dtL_5 (513, .iaload, 1) (mg 23 rfl)) (by rw [nI_clamp (by omega)]) ?_
          refine X_cV (As := [.int (xs (i3 + 1)), .int (xs (i3 + 2))]) (st := []) C (post := _) (x) (by omega) hC.2.1 rfl (cx_X7_when hw hC (xs (i3 + 1)) (xs (i3 + 2)) hp18 gp18 hCF) kL_68 (by decide) (by decide) rfl rfl (Nat.le_of_ble_eq_true rfl) (dtL_5 (514, .invokevirtual 68, 3) (mg 24 rfl)) rfl (fun v96 H94 G95 hv96 => ?_)
          obtain ⟨e1_, hf1_⟩ := hv96
          obtain ⟨y1_, rfl⟩ : isI _ := ⟨_, e1_⟩
          show X k w _ 517 [some (.ref b), some (.ref (wA w (x))), some (.ref (wA w (m))), some (.int (nI (i3)))] [.int (y1_)] H94 G95
          have hMF1 := mFr_k (fun q i z => hf1_ q i (by omega)) hMF
          refine X_aload_n C 2 (dtL_5 (517, .aload_n 2, 1) (mg 25 rfl)) rfl rfl ?_
          refine X_aload_n C 0 (dtL_5 (518, .aload_n 0, 1) (mg 26 rfl)) rfl rfl ?_
          refine X_iload_n C 3 (dtL_5 (519, .iload_n 3, 1) (mg 27 rfl)) rfl rfl ?_
          refine X_iconst (v := nI (1)) C (dtL_5 (520, .iconst 1, 1) (mg 28 rfl)) (by decide) ?_
          refine X_iadd C (dtL_5 (521, .iadd, 1) (mg 29 rfl)) ?_
          refine X_ti (y := nI (i3 + 1)) (nI_add (i3) (1)) ?_
          refine X_sld (v := xs (i3 + 1)) C hSc (vp_in_nI (by omega) (by omega)) (dtL_5 (522, .iaload, 1) (mg 30 rfl)) (by rw [nI_clamp (by omega)]) ?_
          refine X_aload_n C 0 (dtL_5 (523, .aload_n 0, 1) (mg 31 rfl)) rfl rfl ?_
          refine X_iload_n C 3 (dtL_5 (524, .iload_n 3, 1) (mg 32 rfl)) rfl rfl ?_
          refine X_iconst (v := nI (2)) C (dtL_5 (525, .iconst 2, 1) (mg 33 rfl)) (by decide) ?_
          refine X_iadd C (dtL_5 (526, .iadd, 1) (mg 34 rfl)) ?_
          refine X_ti (y := nI (i3 + 2)) (nI_add (i3) (2)) ?_
          refine X_sld (v := xs (i3 + 2)) C hSc (vp_in_nI (by omega) (by omega)) (dtL_5 (527, .iaload, 1) (mg 35 rfl)) (by rw [nI_clamp (by omega)]) ?_
          refine X_cV (As := [.int (xs (i3 + 1)), .int (xs (i3 + 2))]) (st := [.int (y1_)]) C (post := _) (m) (by omega) hM.2.1 rfl (cx_X8_when hw hM (xs (i3 + 1)) (xs (i3 + 2)) H94 G95 hMF1) kL_71 (by decide) (by decide) rfl rfl (Nat.le_of_ble_eq_true rfl) (dtL_5 (528, .invokevirtual 71, 3) (mg 36 rfl)) rfl (fun v99 H97 G98 hv99 => ?_)
          have e2_ := hv99
          obtain ⟨y2_, rfl⟩ : isI _ := ⟨_, e2_⟩
          have heq_ : y1_ = y2_ := by (have z := e1_.trans e2_.symm; injection z with z; injection z)
          show X k w _ 531 [some (.ref b), some (.ref (wA w (x))), some (.ref (wA w (m))), some (.int (nI (i3)))] [.int (y2_), .int (y1_)] H97 G98
          refine X_icmp_eq (tgt := 1078) C (dtL_5 (531, .if_icmp .eq 547, 3) (mg 37 rfl)) (by decide) (fun q100 => ?_) (fun q100 => ?_)
          · skip
            refine X_iinc (v := nI (i3 + 5)) (ls' := [some (.ref b), some (.ref (wA w (x))), some (.ref (wA w (m))), some (.int (nI (i3 + 5)))]) C (dtL_14 (1078, .iinc 3 5, 3) (mg 12 rfl)) rfl (nI_add (i3) 5) rfl ?_
            refine X_goto (tgt := 18) C (dtL_14 (1081, .goto (-1063), 3) (mg 13 rfl)) (by decide) ?_
            refine X_eq (ls' := [some (.ref b), some (.ref (wA w (x))), some (.ref (wA w (m))), some (.int (nI (i3 + 5)))]) (st' := []) (h' := H97) (g' := G98) rfl rfl rfl rfl ?_
            exact ih18 (i3 + 5) (H97) (G98) (by omega) (Or.inr (by omega)) (by omega)
          · skip
            exact absurd heq_ q100
        · refine X_swIn (tgt := 536) C (dtL_0 (32, .tableswitch 1046 0 33 #[152, 185, 208, 241, 264, 277, 290, 323, 346, 369, 392, 405, 438, 471, 504, 527, 560, 593, 646, 669, 692, 735, 758, 771, 784, 817, 850, 883, 916, 940, 963, 986, 1009, 1032], 152) (mg 21 rfl)) (14) (by rw [q2]; decide) (by decide) (by decide) rfl (by decide) ?_
          refine X_aload_n C 1 (dtL_5 (536, .aload_n 1, 1) (mg 40 rfl)) rfl rfl ?_
          refine X_aload_n C 0 (dtL_5 (537, .aload_n 0, 1) (mg 41 rfl)) rfl rfl ?_
          refine X_iload_n C 3 (dtL_5 (538, .iload_n 3, 1) (mg 42 rfl)) rfl rfl ?_
          refine X_iconst (v := nI (1)) C (dtL_5 (539, .iconst 1, 1) (mg 43 rfl)) (by decide) ?_
          refine X_iadd C (dtL_5 (540, .iadd, 1) (mg 44 rfl)) ?_
          refine X_ti (y := nI (i3 + 1)) (nI_add (i3) (1)) ?_
          refine X_sld (v := xs (i3 + 1)) C hSc (vp_in_nI (by omega) (by omega)) (dtL_5 (541, .iaload, 1) (mg 45 rfl)) (by rw [nI_clamp (by omega)]) ?_
          refine X_cV (As := [.int (xs (i3 + 1))]) (st := []) C (post := _) (x) (by omega) hC.2.1 rfl (cx_X7_green hw hC (xs (i3 + 1)) hp18 gp18 hCF) kL_72 (by decide) (by decide) rfl rfl (Nat.le_of_ble_eq_true rfl) (dtL_5 (542, .invokevirtual 72, 3) (mg 46 rfl)) rfl (fun v103 H101 G102 hv103 => ?_)
          obtain ⟨e1_, hf1_⟩ := hv103
          obtain ⟨y1_, rfl⟩ : isI _ := ⟨_, e1_⟩
          show X k w _ 545 [some (.ref b), some (.ref (wA w (x))), some (.ref (wA w (m))), some (.int (nI (i3)))] [.int (y1_)] H101 G102
          have hMF1 := mFr_k (fun q i z => hf1_ q i (by omega)) hMF
          refine X_aload_n C 2 (dtL_5 (545, .aload_n 2, 1) (mg 47 rfl)) rfl rfl ?_
          refine X_aload_n C 0 (dtL_5 (546, .aload_n 0, 1) (mg 48 rfl)) rfl rfl ?_
          refine X_iload_n C 3 (dtL_5 (547, .iload_n 3, 1) (mg 49 rfl)) rfl rfl ?_
          refine X_iconst (v := nI (1)) C (dtL_6 (548, .iconst 1, 1) (mg 0 rfl)) (by decide) ?_
          refine X_iadd C (dtL_6 (549, .iadd, 1) (mg 1 rfl)) ?_
          refine X_ti (y := nI (i3 + 1)) (nI_add (i3) (1)) ?_
          refine X_sld (v := xs (i3 + 1)) C hSc (vp_in_nI (by omega) (by omega)) (dtL_6 (550, .iaload, 1) (mg 2 rfl)) (by rw [nI_clamp (by omega)]) ?_
          refine X_cV (As := [.int (xs (i3 + 1))]) (st := [.int (y1_)]) C (post := _) (m) (by omega) hM.2.1 rfl (ct_X8_green hw hM (xs (i3 + 1)) H101 G102) kL_75 (by decide) (by decide) rfl rfl (Nat.le_of_ble_eq_true rfl) (dtL_6 (551, .invokevirtual 75, 3) (mg 3 rfl)) rfl (fun v106 H104 G105 hv106 => ?_)
          have e2_ := rf_green hMF1 hv106
          obtain ⟨y2_, rfl⟩ : isI _ := ⟨_, e2_⟩
          have heq_ : y1_ = y2_ := by (have z := e1_.trans e2_.symm; injection z with z; injection z)
          show X k w _ 554 [some (.ref b), some (.ref (wA w (x))), some (.ref (wA w (m))), some (.int (nI (i3)))] [.int (y2_), .int (y1_)] H104 G105
          refine X_icmp_eq (tgt := 1078) C (dtL_6 (554, .if_icmp .eq 524, 3) (mg 4 rfl)) (by decide) (fun q107 => ?_) (fun q107 => ?_)
          · skip
            refine X_iinc (v := nI (i3 + 5)) (ls' := [some (.ref b), some (.ref (wA w (x))), some (.ref (wA w (m))), some (.int (nI (i3 + 5)))]) C (dtL_14 (1078, .iinc 3 5, 3) (mg 12 rfl)) rfl (nI_add (i3) 5) rfl ?_
            refine X_goto (tgt := 18) C (dtL_14 (1081, .goto (-1063), 3) (mg 13 rfl)) (by decide) ?_
            refine X_eq (ls' := [some (.ref b), some (.ref (wA w (x))), some (.ref (wA w (m))), some (.int (nI (i3 + 5)))]) (st' := []) (h' := H104) (g' := G105) rfl rfl rfl rfl ?_
            exact ih18 (i3 + 5) (H104) (G105) (by omega) (Or.inr (by omega)) (by omega)
          · skip
            exact absurd heq_ q107
        · refine X_swIn (tgt := 559) C (dtL_0 (32, .tableswitch 1046 0 33 #[152, 185, 208, 241, 264, 277, 290, 323, 346, 369, 392, 405, 438, 471, 504, 527, 560, 593, 646, 669, 692, 735, 758, 771, 784, 817, 850, 883, 916, 940, 963, 986, 1009, 1032], 152) (mg 21 rfl)) (15) (by rw [q2]; decide) (by decide) (by decide) rfl (by decide) ?_
          refine X_aload_n C 1 (dtL_6 (559, .aload_n 1, 1) (mg 7 rfl)) rfl rfl ?_
          refine X_aload_n C 0 (dtL_6 (560, .aload_n 0, 1) (mg 8 rfl)) rfl rfl ?_
          refine X_iload_n C 3 (dtL_6 (561, .iload_n 3, 1) (mg 9 rfl)) rfl rfl ?_
          refine X_iconst (v := nI (1)) C (dtL_6 (562, .iconst 1, 1) (mg 10 rfl)) (by decide) ?_
          refine X_iadd C (dtL_6 (563, .iadd, 1) (mg 11 rfl)) ?_
          refine X_ti (y := nI (i3 + 1)) (nI_add (i3) (1)) ?_
          refine X_sld (v := xs (i3 + 1)) C hSc (vp_in_nI (by omega) (by omega)) (dtL_6 (564, .iaload, 1) (mg 12 rfl)) (by rw [nI_clamp (by omega)]) ?_
          refine X_aload_n C 0 (dtL_6 (565, .aload_n 0, 1) (mg 13 rfl)) rfl rfl ?_
          refine X_iload_n C 3 (dtL_6 (566, .iload_n 3, 1) (mg 14 rfl)) rfl rfl ?_
          refine X_iconst (v := nI (2)) C (dtL_6 (567, .iconst 2, 1) (mg 15 rfl)) (by decide) ?_
          refine X_iadd C (dtL_6 (568, .iadd, 1) (mg 16 rfl)) ?_
          refine X_ti (y := nI (i3 + 2)) (nI_add (i3) (2)) ?_
          refine X_sld (v := xs (i3 + 2)) C hSc (vp_in_nI (by omega) (by omega)) (dtL_6 (569, .iaload, 1) (mg 17 rfl)) (by rw [nI_clamp (by omega)]) ?_
          refine X_cV (As := [.int (xs (i3 + 1)), .int (xs (i3 + 2))]) (st := []) C (post := _) (x) (by omega) hC.2.1 rfl (cx_X7_way hw hC (xs (i3 + 1)) (xs (i3 + 2)) hp18 gp18 hCF) kL_76 (by decide) (by decide) rfl rfl (Nat.le_of_ble_eq_true rfl) (dtL_6 (570, .invokevirtual 76, 3) (mg 18 rfl)) rfl (fun v110 H108 G109 hv110 => ?_)
          obtain ⟨⟨y1_, rfl, e1_⟩, hf1_⟩ := hv110
          show X k w _ 573 [some (.ref b), some (.ref (wA w (x))), some (.ref (wA w (m))), some (.int (nI (i3)))] [.int (y1_)] H108 G109
          have hMF1 := mFr_k (fun q i z => hf1_ q i (by omega)) hMF
          refine X_aload_n C 2 (dtL_6 (573, .aload_n 2, 1) (mg 19 rfl)) rfl rfl ?_
          refine X_aload_n C 0 (dtL_6 (574, .aload_n 0, 1) (mg 20 rfl)) rfl rfl ?_
          refine X_iload_n C 3 (dtL_6 (575, .iload_n 3, 1) (mg 21 rfl)) rfl rfl ?_
          refine X_iconst (v := nI (1)) C (dtL_6 (576, .iconst 1, 1) (mg 22 rfl)) (by decide) ?_
          refine X_iadd C (dtL_6 (577, .iadd, 1) (mg 23 rfl)) ?_
          refine X_ti (y := nI (i3 + 1)) (nI_add (i3) (1)) ?_
          refine X_sld (v := xs (i3 + 1)) C hSc (vp_in_nI (by omega) (by omega)) (dtL_6 (578, .iaload, 1) (mg 24 rfl)) (by rw [nI_clamp (by omega)]) ?_
          refine X_aload_n C 0 (dtL_6 (579, .aload_n 0, 1) (mg 25 rfl)) rfl rfl ?_
          refine X_iload_n C 3 (dtL_6 (580, .iload_n 3, 1) (mg 26 rfl)) rfl rfl ?_
          refine X_iconst (v := nI (2)) C (dtL_6 (581, .iconst 2, 1) (mg 27 rfl)) (by decide) ?_
          refine X_iadd C (dtL_6 (582, .iadd, 1) (mg 28 rfl)) ?_
          refine X_ti (y := nI (i3 + 2)) (nI_add (i3) (2)) ?_
          refine X_sld (v := xs (i3 + 2)) C hSc (vp_in_nI (by omega) (by omega)) (dtL_6 (583, .iaload, 1) (mg 29 rfl)) (by rw [nI_clamp (by omega)]) ?_
          refine X_cV (As := [.int (xs (i3 + 1)), .int (xs (i3 + 2))]) (st := [.int (y1_)]) C (post := _) (m) (by omega) hM.2.1 rfl (cx_X8_way hw hM (xs (i3 + 1)) (xs (i3 + 2)) H108 G109 hMF1) kL_79 (by decide) (by decide) rfl rfl (Nat.le_of_ble_eq_true rfl) (dtL_6 (584, .invokevirtual 79, 3) (mg 30 rfl)) rfl (fun v113 H111 G112 hv113 => ?_)
          obtain ⟨y2_, rfl, e2_⟩ := hv113
          have heq_ : y1_ = y2_ := wyR_u e1_ e2_
          show X k w _ 587 [some (.ref b), some (.ref (wA w (x))), some (.ref (wA w (m))), some (.int (nI (i3)))] [.int (y2_), .int (y1_)] H111 G112
          refine X_icmp_eq (tgt := 1078) C (dtL_6 (587, .if_icmp .eq 491, 3) (mg 31 rfl)) (by decide) (fun q114 => ?_) (fun q114 => ?_)
          · skip
            refine X_iinc (v := nI (i3 + 5)) (ls' := [some (.ref b), some (.ref (wA w (x))), some (.ref (wA w (m))), some (.int (nI (i3 + 5)))]) C (dtL_14 (1078, .iinc 3 5, 3) (mg 12 rfl)) rfl (nI_add (i3) 5) rfl ?_
            refine X_goto (tgt := 18) C (dtL_14 (1081, .goto (-1063), 3) (mg 13 rfl)) (by decide) ?_
            refine X_eq (ls' := [some (.ref b), some (.ref (wA w (x))), some (.ref (wA w (m))), some (.int (nI (i3 + 5)))]) (st' := []) (h' := H111) (g' := G112) rfl rfl rfl rfl ?_
            exact ih18 (i3 + 5) (H111) (G112) (by omega) (Or.inr (by omega)) (by omega)
          · skip
            exact absurd heq_ q114
        · refine X_swIn (tgt := 592) C (dtL_0 (32, .tableswitch 1046 0 33 #[152, 185, 208, 241, 264, 277, 290, 323, 346, 369, 392, 405, 438, 471, 504, 527, 560, 593, 646, 669, 692, 735, 758, 771, 784, 817, 850, 883, 916, 940, 963, 986, 1009, 1032], 152) (mg 21 rfl)) (16) (by rw [q2]; decide) (by decide) (by decide) rfl (by decide) ?_
          refine X_aload_n C 1 (dtL_6 (592, .aload_n 1, 1) (mg 34 rfl)) rfl rfl ?_
          refine X_aload_n C 0 (dtL_6 (593, .aload_n 0, 1) (mg 35 rfl)) rfl rfl ?_
          refine X_iload_n C 3 (dtL_6 (594, .iload_n 3, 1) (mg 36 rfl)) rfl rfl ?_
          refine X_iconst (v := nI (1)) C (dtL_6 (595, .iconst 1, 1) (mg 37 rfl)) (by decide) ?_
          refine X_iadd C (dtL_6 (596, .iadd, 1) (mg 38 rfl)) ?_
          refine X_ti (y := nI (i3 + 1)) (nI_add (i3) (1)) ?_
          refine X_sld (v := xs (i3 + 1)) C hSc (vp_in_nI (by omega) (by omega)) (dtL_6 (597, .iaload, 1) (mg 39 rfl)) (by rw [nI_clamp (by omega)]) ?_
          refine X_aload_n C 0 (dtL_6 (598, .aload_n 0, 1) (mg 40 rfl)) rfl rfl ?_
          refine X_iload_n C 3 (dtL_6 (599, .iload_n 3, 1) (mg 41 rfl)) rfl rfl ?_
          refine X_iconst (v := nI (2)) C (dtL_6 (600, .iconst 2, 1) (mg 42 rfl)) (by decide) ?_
          refine X_iadd C (dtL_6 (601, .iadd, 1) (mg 43 rfl)) ?_
          refine X_ti (y := nI (i3 + 2)) (nI_add (i3) (2)) ?_
          refine X_sld (v := xs (i3 + 2)) C hSc (vp_in_nI (by omega) (by omega)) (dtL_6 (602, .iaload, 1) (mg 44 rfl)) (by rw [nI_clamp (by omega)]) ?_
          refine X_cV (As := [.int (xs (i3 + 1)), .int (xs (i3 + 2))]) (st := []) C (post := _) (x) (by omega) hC.2.1 rfl (cx_X7_three hw hC (xs (i3 + 1)) (xs (i3 + 2)) hp18 gp18 hCF) kL_80 (by decide) (by decide) rfl rfl (Nat.le_of_ble_eq_true rfl) (dtL_6 (603, .invokevirtual 80, 3) (mg 45 rfl)) rfl (fun v117 H115 G116 hv117 => ?_)
          obtain ⟨e1_, hf1_⟩ := hv117
          obtain ⟨y1_, rfl⟩ : isI _ := ⟨_, e1_⟩
          show X k w _ 606 [some (.ref b), some (.ref (wA w (x))), some (.ref (wA w (m))), some (.int (nI (i3)))] [.int (y1_)] H115 G116
          have hMF1 := mFr_k (fun q i z => hf1_ q i (by omega)) hMF
          refine X_aload_n C 2 (dtL_6 (606, .aload_n 2, 1) (mg 46 rfl)) rfl rfl ?_
          refine X_aload_n C 0 (dtL_6 (607, .aload_n 0, 1) (mg 47 rfl)) rfl rfl ?_
          refine X_iload_n C 3 (dtL_6 (608, .iload_n 3, 1) (mg 48 rfl)) rfl rfl ?_
          refine X_iconst (v := nI (1)) C (dtL_6 (609, .iconst 1, 1) (mg 49 rfl)) (by decide) ?_
          refine X_iadd C (dtL_7 (610, .iadd, 1) (mg 0 rfl)) ?_
          refine X_ti (y := nI (i3 + 1)) (nI_add (i3) (1)) ?_
          refine X_sld (v := xs (i3 + 1)) C hSc (vp_in_nI (by omega) (by omega)) (dtL_7 (611, .iaload, 1) (mg 1 rfl)) (by rw [nI_clamp (by omega)]) ?_
          refine X_aload_n C 0 (dtL_7 (612, .aload_n 0, 1) (mg 2 rfl)) rfl rfl ?_
          refine X_iload_n C 3 (dtL_7 (613, .iload_n 3, 1) (mg 3 rfl)) rfl rfl ?_
          refine X_iconst (v := nI (2)) C (dtL_7 (614, .iconst 2, 1) (mg 4 rfl)) (by decide) ?_
          refine X_iadd C (dtL_7 (615, .iadd, 1) (mg 5 rfl)) ?_
          refine X_ti (y := nI (i3 + 2)) (nI_add (i3) (2)) ?_
          refine X_sld (v := xs (i3 + 2)) C hSc (vp_in_nI (by omega) (by omega)) (dtL_7 (616, .iaload, 1) (mg 6 rfl)) (by rw [nI_clamp (by omega)]) ?_
          refine X_cV (As := [.int (xs (i3 + 1)), .int (xs (i3 + 2))]) (st := [.int (y1_)]) C (post := _) (m) (by omega) hM.2.1 rfl (cx_X8_three hw hM (xs (i3 + 1)) (xs (i3 + 2)) H115 G116 hMF1) kL_83 (by decide) (by decide) rfl rfl (Nat.le_of_ble_eq_true rfl) (dtL_7 (617, .invokevirtual 83, 3) (mg 7 rfl)) rfl (fun v120 H118 G119 hv120 => ?_)
          have e2_ := hv120
          obtain ⟨y2_, rfl⟩ : isI _ := ⟨_, e2_⟩
          have heq_ : y1_ = y2_ := by (have z := e1_.trans e2_.symm; injection z with z; injection z)
          show X k w _ 620 [some (.ref b), some (.ref (wA w (x))), some (.ref (wA w (m))), some (.int (nI (i3)))] [.int (y2_), .int (y1_)] H118 G119
          refine X_icmp_eq (tgt := 1078) C (dtL_7 (620, .if_icmp .eq 458, 3) (mg 8 rfl)) (by decide) (fun q121 => ?_) (fun q121 => ?_)
          · skip
            refine X_iinc (v := nI (i3 + 5)) (ls' := [some (.ref b), some (.ref (wA w (x))), some (.ref (wA w (m))), some (.int (nI (i3 + 5)))]) C (dtL_14 (1078, .iinc 3 5, 3) (mg 12 rfl)) rfl (nI_add (i3) 5) rfl ?_
            refine X_goto (tgt := 18) C (dtL_14 (1081, .goto (-1063), 3) (mg 13 rfl)) (by decide) ?_
            refine X_eq (ls' := [some (.ref b), some (.ref (wA w (x))), some (.ref (wA w (m))), some (.int (nI (i3 + 5)))]) (st' := []) (h' := H118) (g' := G119) rfl rfl rfl rfl ?_
            exact ih18 (i3 + 5) (H118) (G119) (by omega) (Or.inr (by omega)) (by omega)
          · skip
            exact absurd heq_ q121
        · refine X_swIn (tgt := 625) C (dtL_0 (32, .tableswitch 1046 0 33 #[152, 185, 208, 241, 264, 277, 290, 323, 346, 369, 392, 405, 438, 471, 504, 527, 560, 593, 646, 669, 692, 735, 758, 771, 784, 817, 850, 883, 916, 940, 963, 986, 1009, 1032], 152) (mg 21 rfl)) (17) (by rw [q2]; decide) (by decide) (by decide) rfl (by decide) ?_
          refine X_aload_n C 1 (dtL_7 (625, .aload_n 1, 1) (mg 11 rfl)) rfl rfl ?_
          refine X_aload_n C 0 (dtL_7 (626, .aload_n 0, 1) (mg 12 rfl)) rfl rfl ?_
          refine X_iload_n C 3 (dtL_7 (627, .iload_n 3, 1) (mg 13 rfl)) rfl rfl ?_
          refine X_iconst (v := nI (1)) C (dtL_7 (628, .iconst 1, 1) (mg 14 rfl)) (by decide) ?_
          refine X_iadd C (dtL_7 (629, .iadd, 1) (mg 15 rfl)) ?_
          refine X_ti (y := nI (i3 + 1)) (nI_add (i3) (1)) ?_
          refine X_sld (v := xs (i3 + 1)) C hSc (vp_in_nI (by omega) (by omega)) (dtL_7 (630, .iaload, 1) (mg 16 rfl)) (by rw [nI_clamp (by omega)]) ?_
          refine X_aload_n C 0 (dtL_7 (631, .aload_n 0, 1) (mg 17 rfl)) rfl rfl ?_
          refine X_iload_n C 3 (dtL_7 (632, .iload_n 3, 1) (mg 18 rfl)) rfl rfl ?_
          refine X_iconst (v := nI (2)) C (dtL_7 (633, .iconst 2, 1) (mg 19 rfl)) (by decide) ?_
          refine X_iadd C (dtL_7 (634, .iadd, 1) (mg 20 rfl)) ?_
          refine X_ti (y := nI (i3 + 2)) (nI_add (i3) (2)) ?_
          refine X_sld (v := xs (i3 + 2)) C hSc (vp_in_nI (by omega) (by omega)) (dtL_7 (635, .iaload, 1) (mg 21 rfl)) (by rw [nI_clamp (by omega)]) ?_
          refine X_aload_n C 0 (dtL_7 (636, .aload_n 0, 1) (mg 22 rfl)) rfl rfl ?_
          refine X_iload_n C 3 (dtL_7 (637, .iload_n 3, 1) (mg 23 rfl)) rfl rfl ?_
          refine X_iconst (v := nI (3)) C (dtL_7 (638, .iconst 3, 1) (mg 24 rfl)) (by decide) ?_
          refine X_iadd C (dtL_7 (639, .iadd, 1) (mg 25 rfl)) ?_
          refine X_ti (y := nI (i3 + 3)) (nI_add (i3) (3)) ?_
          refine X_sld (v := xs (i3 + 3)) C hSc (vp_in_nI (by omega) (by omega)) (dtL_7 (640, .iaload, 1) (mg 26 rfl)) (by rw [nI_clamp (by omega)]) ?_
          refine X_aload_n C 0 (dtL_7 (641, .aload_n 0, 1) (mg 27 rfl)) rfl rfl ?_
          refine X_iload_n C 3 (dtL_7 (642, .iload_n 3, 1) (mg 28 rfl)) rfl rfl ?_
          refine X_iconst (v := nI (4)) C (dtL_7 (643, .iconst 4, 1) (mg 29 rfl)) (by decide) ?_
          refine X_iadd C (dtL_7 (644, .iadd, 1) (mg 30 rfl)) ?_
          refine X_ti (y := nI (i3 + 4)) (nI_add (i3) (4)) ?_
          refine X_sld (v := xs (i3 + 4)) C hSc (vp_in_nI (by omega) (by omega)) (dtL_7 (645, .iaload, 1) (mg 31 rfl)) (by rw [nI_clamp (by omega)]) ?_
          refine X_cV (As := [.int (xs (i3 + 1)), .int (xs (i3 + 2)), .int (xs (i3 + 3)), .int (xs (i3 + 4))]) (st := []) C (post := _) (x) (by omega) hC.2.1 rfl (ct_X7_seen hw hC (xs (i3 + 1)) (xs (i3 + 2)) (xs (i3 + 3)) (xs (i3 + 4)) (n := ns) hns hp18 gp18 hse) kL_84 (by decide) (by decide) rfl rfl (Nat.le_of_ble_eq_true rfl) (dtL_7 (646, .invokevirtual 84, 3) (mg 32 rfl)) rfl (fun v124 H122 G123 hv124 => ?_)
          have hv1_ := hv124
          obtain ⟨⟨y1_, rfl⟩, hk1_⟩ := cKp_seen (n := ns) hJ.1.1 hns hv1_
          show X k w _ 649 [some (.ref b), some (.ref (wA w (x))), some (.ref (wA w (m))), some (.int (nI (i3)))] [.int (y1_)] H122 G123
          have hMk := J_1 hxm hJ.1 hk1_
          obtain ⟨⟨⟨nu, hnu, eu⟩, ⟨c0, hc0, hat⟩, -⟩, ⟨⟨ms, hms, ese⟩, ⟨mm, hmm, ema⟩⟩, -, ⟨mt, hmt, etx⟩⟩ := id hMk
          refine X_aload_n C 2 (dtL_7 (649, .aload_n 2, 1) (mg 33 rfl)) rfl rfl ?_
          refine X_aload_n C 0 (dtL_7 (650, .aload_n 0, 1) (mg 34 rfl)) rfl rfl ?_
          refine X_iload_n C 3 (dtL_7 (651, .iload_n 3, 1) (mg 35 rfl)) rfl rfl ?_
          refine X_iconst (v := nI (1)) C (dtL_7 (652, .iconst 1, 1) (mg 36 rfl)) (by decide) ?_
          refine X_iadd C (dtL_7 (653, .iadd, 1) (mg 37 rfl)) ?_
          refine X_ti (y := nI (i3 + 1)) (nI_add (i3) (1)) ?_
          refine X_sld (v := xs (i3 + 1)) C hSc (vp_in_nI (by omega) (by omega)) (dtL_7 (654, .iaload, 1) (mg 38 rfl)) (by rw [nI_clamp (by omega)]) ?_
          refine X_aload_n C 0 (dtL_7 (655, .aload_n 0, 1) (mg 39 rfl)) rfl rfl ?_
          refine X_iload_n C 3 (dtL_7 (656, .iload_n 3, 1) (mg 40 rfl)) rfl rfl ?_
          refine X_iconst (v := nI (2)) C (dtL_7 (657, .iconst 2, 1) (mg 41 rfl)) (by decide) ?_
          refine X_iadd C (dtL_7 (658, .iadd, 1) (mg 42 rfl)) ?_
          refine X_ti (y := nI (i3 + 2)) (nI_add (i3) (2)) ?_
          refine X_sld (v := xs (i3 + 2)) C hSc (vp_in_nI (by omega) (by omega)) (dtL_7 (659, .iaload, 1) (mg 43 rfl)) (by rw [nI_clamp (by omega)]) ?_
          refine X_aload_n C 0 (dtL_7 (660, .aload_n 0, 1) (mg 44 rfl)) rfl rfl ?_
          refine X_iload_n C 3 (dtL_7 (661, .iload_n 3, 1) (mg 45 rfl)) rfl rfl ?_
          refine X_iconst (v := nI (3)) C (dtL_7 (662, .iconst 3, 1) (mg 46 rfl)) (by decide) ?_
          refine X_iadd C (dtL_7 (663, .iadd, 1) (mg 47 rfl)) ?_
          refine X_ti (y := nI (i3 + 3)) (nI_add (i3) (3)) ?_
          refine X_sld (v := xs (i3 + 3)) C hSc (vp_in_nI (by omega) (by omega)) (dtL_7 (664, .iaload, 1) (mg 48 rfl)) (by rw [nI_clamp (by omega)]) ?_
          refine X_aload_n C 0 (dtL_7 (665, .aload_n 0, 1) (mg 49 rfl)) rfl rfl ?_
          refine X_iload_n C 3 (dtL_8 (666, .iload_n 3, 1) (mg 0 rfl)) rfl rfl ?_
          refine X_iconst (v := nI (4)) C (dtL_8 (667, .iconst 4, 1) (mg 1 rfl)) (by decide) ?_
          refine X_iadd C (dtL_8 (668, .iadd, 1) (mg 2 rfl)) ?_
          refine X_ti (y := nI (i3 + 4)) (nI_add (i3) (4)) ?_
          refine X_sld (v := xs (i3 + 4)) C hSc (vp_in_nI (by omega) (by omega)) (dtL_8 (669, .iaload, 1) (mg 3 rfl)) (by rw [nI_clamp (by omega)]) ?_
          refine X_cV (As := [.int (xs (i3 + 1)), .int (xs (i3 + 2)), .int (xs (i3 + 3)), .int (xs (i3 + 4))]) (st := [.int (y1_)]) C (post := _) (m) (by omega) hM.2.1 rfl (ct_X8_seen hw hM (xs (i3 + 1)) (xs (i3 + 2)) (xs (i3 + 3)) (xs (i3 + 4)) (n := ns) hns H122 G123 ((hk1_.1 _ _ (by omega)).trans (hJ.2.2.1.2.2.2.1.symm.trans hse))) kL_88 (by decide) (by decide) rfl rfl (Nat.le_of_ble_eq_true rfl) (dtL_8 (670, .invokevirtual 88, 3) (mg 4 rfl)) rfl (fun v127 H125 G126 hv127 => ?_)
          have hv2_ := hv127
          obtain ⟨y2_, rfl⟩ := (mKp_seen hMk hns hv2_).1
          obtain ⟨hJ2_, hvv_⟩ := JX_seen hxm hJ hns hse hv1_ hv2_
          have heq_ : y1_ = y2_ := by injection hvv_ with z; injection z
          show X k w _ 673 [some (.ref b), some (.ref (wA w (x))), some (.ref (wA w (m))), some (.int (nI (i3)))] [.int (y2_), .int (y1_)] H125 G126
          refine X_icmp_eq (tgt := 1078) C (dtL_8 (673, .if_icmp .eq 405, 3) (mg 5 rfl)) (by decide) (fun q128 => ?_) (fun q128 => ?_)
          · skip
            refine X_iinc (v := nI (i3 + 5)) (ls' := [some (.ref b), some (.ref (wA w (x))), some (.ref (wA w (m))), some (.int (nI (i3 + 5)))]) C (dtL_14 (1078, .iinc 3 5, 3) (mg 12 rfl)) rfl (nI_add (i3) 5) rfl ?_
            refine X_goto (tgt := 18) C (dtL_14 (1081, .goto (-1063), 3) (mg 13 rfl)) (by decide) ?_
            refine X_eq (ls' := [some (.ref b), some (.ref (wA w (x))), some (.ref (wA w (m))), some (.int (nI (i3 + 5)))]) (st' := []) (h' := H125) (g' := G126) rfl rfl rfl rfl ?_
            exact ih18 (i3 + 5) (H125) (G126) (by omega) (Or.inr (by omega)) (by omega)
          · skip
            exact absurd heq_ q128
        · refine X_swIn (tgt := 678) C (dtL_0 (32, .tableswitch 1046 0 33 #[152, 185, 208, 241, 264, 277, 290, 323, 346, 369, 392, 405, 438, 471, 504, 527, 560, 593, 646, 669, 692, 735, 758, 771, 784, 817, 850, 883, 916, 940, 963, 986, 1009, 1032], 152) (mg 21 rfl)) (18) (by rw [q2]; decide) (by decide) (by decide) rfl (by decide) ?_
          refine X_aload_n C 1 (dtL_8 (678, .aload_n 1, 1) (mg 8 rfl)) rfl rfl ?_
          refine X_aload_n C 0 (dtL_8 (679, .aload_n 0, 1) (mg 9 rfl)) rfl rfl ?_
          refine X_iload_n C 3 (dtL_8 (680, .iload_n 3, 1) (mg 10 rfl)) rfl rfl ?_
          refine X_iconst (v := nI (1)) C (dtL_8 (681, .iconst 1, 1) (mg 11 rfl)) (by decide) ?_
          refine X_iadd C (dtL_8 (682, .iadd, 1) (mg 12 rfl)) ?_
          refine X_ti (y := nI (i3 + 1)) (nI_add (i3) (1)) ?_
          refine X_sld (v := xs (i3 + 1)) C hSc (vp_in_nI (by omega) (by omega)) (dtL_8 (683, .iaload, 1) (mg 13 rfl)) (by rw [nI_clamp (by omega)]) ?_
          refine X_cV (As := [.int (xs (i3 + 1))]) (st := []) C (post := _) (x) (by omega) hC.2.1 rfl (cx_X7_said hw hC (xs (i3 + 1)) (ns := ns) hns hp18 gp18 hse) kL_89 (by decide) (by decide) rfl rfl (Nat.le_of_ble_eq_true rfl) (dtL_8 (684, .invokevirtual 89, 3) (mg 14 rfl)) rfl (fun v131 H129 G130 hv131 => ?_)
          have hv1_ := hv131
          obtain ⟨⟨y1_, rfl⟩, hk1_, hq1_⟩ := cKp_look hJ.1.1 hv1_
          show X k w _ 687 [some (.ref b), some (.ref (wA w (x))), some (.ref (wA w (m))), some (.int (nI (i3)))] [.int (y1_)] H129 G130
          have hMk := J_1 hxm hJ.1 hk1_
          obtain ⟨⟨⟨nu, hnu, eu⟩, ⟨c0, hc0, hat⟩, -⟩, ⟨⟨ms, hms, ese⟩, ⟨mm, hmm, ema⟩⟩, -, ⟨mt, hmt, etx⟩⟩ := id hMk
          refine X_aload_n C 2 (dtL_8 (687, .aload_n 2, 1) (mg 15 rfl)) rfl rfl ?_
          refine X_aload_n C 0 (dtL_8 (688, .aload_n 0, 1) (mg 16 rfl)) rfl rfl ?_
          refine X_iload_n C 3 (dtL_8 (689, .iload_n 3, 1) (mg 17 rfl)) rfl rfl ?_
          refine X_iconst (v := nI (1)) C (dtL_8 (690, .iconst 1, 1) (mg 18 rfl)) (by decide) ?_
          refine X_iadd C (dtL_8 (691, .iadd, 1) (mg 19 rfl)) ?_
          refine X_ti (y := nI (i3 + 1)) (nI_add (i3) (1)) ?_
          refine X_sld (v := xs (i3 + 1)) C hSc (vp_in_nI (by omega) (by omega)) (dtL_8 (692, .iaload, 1) (mg 20 rfl)) (by rw [nI_clamp (by omega)]) ?_
          refine X_cV (As := [.int (xs (i3 + 1))]) (st := [.int (y1_)]) C (post := _) (m) (by omega) hM.2.1 rfl (ct_X8_said hw hM (xs (i3 + 1)) (n := ns) hns H129 G130 ((hk1_.1 _ _ (by omega)).trans (hJ.2.2.1.2.2.2.1.symm.trans hse))) kL_92 (by decide) (by decide) rfl rfl (Nat.le_of_ble_eq_true rfl) (dtL_8 (693, .invokevirtual 92, 3) (mg 21 rfl)) rfl (fun v134 H132 G133 hv134 => ?_)
          have hv2_ := hv134
          have hq2_ := mQ_look (m := m) hv2_
          have hvv_ := lk_kk (fun _ => said_e hns hJ.2.2.1 hse (fun i => hk1_.1 _ _ (by omega))) hv1_ hv2_
          obtain ⟨⟨y2_, rfl⟩, hk2_⟩ := mKp_look hMk hv2_
          have heq_ : y1_ = y2_ := by injection hvv_ with z; injection z
          have hJ2_ := J2_kk hxm hJ hk1_ hk2_ hq1_ hq2_
          show X k w _ 696 [some (.ref b), some (.ref (wA w (x))), some (.ref (wA w (m))), some (.int (nI (i3)))] [.int (y2_), .int (y1_)] H132 G133
          refine X_icmp_eq (tgt := 1078) C (dtL_8 (696, .if_icmp .eq 382, 3) (mg 22 rfl)) (by decide) (fun q135 => ?_) (fun q135 => ?_)
          · skip
            refine X_iinc (v := nI (i3 + 5)) (ls' := [some (.ref b), some (.ref (wA w (x))), some (.ref (wA w (m))), some (.int (nI (i3 + 5)))]) C (dtL_14 (1078, .iinc 3 5, 3) (mg 12 rfl)) rfl (nI_add (i3) 5) rfl ?_
            refine X_goto (tgt := 18) C (dtL_14 (1081, .goto (-1063), 3) (mg 13 rfl)) (by decide) ?_
            refine X_eq (ls' := [some (.ref b), some (.ref (wA w (x))), some (.ref (wA w (m))), some (.int (nI (i3 + 5)))]) (st' := []) (h' := H132) (g' := G133) rfl rfl rfl rfl ?_
            exact ih18 (i3 + 5) (H132) (G133) (by omega) (Or.inr (by omega)) (by omega)
          · skip
            exact absurd heq_ q135
        · refine X_swIn (tgt := 701) C (dtL_0 (32, .tableswitch 1046 0 33 #[152, 185, 208, 241, 264, 277, 290, 323, 346, 369, 392, 405, 438, 471, 504, 527, 560, 593, 646, 669, 692, 735, 758, 771, 784, 817, 850, 883, 916, 940, 963, 986, 1009, 1032], 152) (mg 21 rfl)) (19) (by rw [q2]; decide) (by decide) (by decide) rfl (by decide) ?_
          refine X_aload_n C 1 (dtL_8 (701, .aload_n 1, 1) (mg 25 rfl)) rfl rfl ?_
          refine X_aload_n C 0 (dtL_8 (702, .aload_n 0, 1) (mg 26 rfl)) rfl rfl ?_
          refine X_iload_n C 3 (dtL_8 (703, .iload_n 3, 1) (mg 27 rfl)) rfl rfl ?_
          refine X_iconst (v := nI (1)) C (dtL_8 (704, .iconst 1, 1) (mg 28 rfl)) (by decide) ?_
          refine X_iadd C (dtL_8 (705, .iadd, 1) (mg 29 rfl)) ?_
          refine X_ti (y := nI (i3 + 1)) (nI_add (i3) (1)) ?_
          refine X_sld (v := xs (i3 + 1)) C hSc (vp_in_nI (by omega) (by omega)) (dtL_8 (706, .iaload, 1) (mg 30 rfl)) (by rw [nI_clamp (by omega)]) ?_
          refine X_cV (As := [.int (xs (i3 + 1))]) (st := []) C (post := _) (x) (by omega) hC.2.1 rfl (cx_X7_tell hw hC (xs (i3 + 1)) (ns := ns) hns hp18 gp18 hse) kL_93 (by decide) (by decide) rfl rfl (Nat.le_of_ble_eq_true rfl) (dtL_8 (707, .invokevirtual 93, 3) (mg 31 rfl)) rfl (fun v138 H136 G137 hv138 => ?_)
          have hv1_ := hv138
          obtain ⟨⟨y1_, rfl⟩, hk1_, hq1_⟩ := cKp_tell hJ.1.1 hv1_
          show X k w _ 710 [some (.ref b), some (.ref (wA w (x))), some (.ref (wA w (m))), some (.int (nI (i3)))] [.int (y1_)] H136 G137
          have hMk := J_1 hxm hJ.1 hk1_
          obtain ⟨⟨⟨nu, hnu, eu⟩, ⟨c0, hc0, hat⟩, -⟩, ⟨⟨ms, hms, ese⟩, ⟨mm, hmm, ema⟩⟩, -, ⟨mt, hmt, etx⟩⟩ := id hMk
          refine X_aload_n C 2 (dtL_8 (710, .aload_n 2, 1) (mg 32 rfl)) rfl rfl ?_
          refine X_aload_n C 0 (dtL_8 (711, .aload_n 0, 1) (mg 33 rfl)) rfl rfl ?_
          refine X_iload_n C 3 (dtL_8 (712, .iload_n 3, 1) (mg 34 rfl)) rfl rfl ?_
          refine X_iconst (v := nI (1)) C (dtL_8 (713, .iconst 1, 1) (mg 35 rfl)) (by decide) ?_
          refine X_iadd C (dtL_8 (714, .iadd, 1) (mg 36 rfl)) ?_
          refine X_ti (y := nI (i3 + 1)) (nI_add (i3) (1)) ?_
          refine X_sld (v := xs (i3 + 1)) C hSc (vp_in_nI (by omega) (by omega)) (dtL_8 (715, .iaload, 1) (mg 37 rfl)) (by rw [nI_clamp (by omega)]) ?_
          refine X_cV (As := [.int (xs (i3 + 1))]) (st := [.int (y1_)]) C (post := _) (m) (by omega) hM.2.1 rfl (cx_X8_tell hw hM (xs (i3 + 1)) (n := ns) hns H136 G137 ((hk1_.1 _ _ (by omega)).trans (hJ.2.2.1.2.2.2.1.symm.trans hse))) kL_96 (by decide) (by decide) rfl rfl (Nat.le_of_ble_eq_true rfl) (dtL_8 (716, .invokevirtual 96, 3) (mg 38 rfl)) rfl (fun v141 H139 G140 hv141 => ?_)
          have hv2_ := hv141
          have hvv_ := tl_kk (fun _ => tell_e hns hJ.2.2.1 hse (fun i => hk1_.1 _ _ (by omega))) hv1_ hv2_
          obtain ⟨⟨y2_, rfl⟩, hk2_, hq2_⟩ := mKp_tell hMk hv2_
          have heq_ : y1_ = y2_ := by injection hvv_ with z; injection z
          have hJ2_ := J2_kk hxm hJ hk1_ hk2_ hq1_ hq2_
          show X k w _ 719 [some (.ref b), some (.ref (wA w (x))), some (.ref (wA w (m))), some (.int (nI (i3)))] [.int (y2_), .int (y1_)] H139 G140
          refine X_icmp_eq (tgt := 1078) C (dtL_8 (719, .if_icmp .eq 359, 3) (mg 39 rfl)) (by decide) (fun q142 => ?_) (fun q142 => ?_)
          · skip
            refine X_iinc (v := nI (i3 + 5)) (ls' := [some (.ref b), some (.ref (wA w (x))), some (.ref (wA w (m))), some (.int (nI (i3 + 5)))]) C (dtL_14 (1078, .iinc 3 5, 3) (mg 12 rfl)) rfl (nI_add (i3) 5) rfl ?_
            refine X_goto (tgt := 18) C (dtL_14 (1081, .goto (-1063), 3) (mg 13 rfl)) (by decide) ?_
            refine X_eq (ls' := [some (.ref b), some (.ref (wA w (x))), some (.ref (wA w (m))), some (.int (nI (i3 + 5)))]) (st' := []) (h' := H139) (g' := G140) rfl rfl rfl rfl ?_
            exact ih18 (i3 + 5) (H139) (G140) (by omega) (Or.inr (by omega)) (by omega)
          · skip
            exact absurd heq_ q142
        · refine X_swIn (tgt := 724) C (dtL_0 (32, .tableswitch 1046 0 33 #[152, 185, 208, 241, 264, 277, 290, 323, 346, 369, 392, 405, 438, 471, 504, 527, 560, 593, 646, 669, 692, 735, 758, 771, 784, 817, 850, 883, 916, 940, 963, 986, 1009, 1032], 152) (mg 21 rfl)) (20) (by rw [q2]; decide) (by decide) (by decide) rfl (by decide) ?_
          refine X_aload_n C 1 (dtL_8 (724, .aload_n 1, 1) (mg 42 rfl)) rfl rfl ?_
          refine X_aload_n C 0 (dtL_8 (725, .aload_n 0, 1) (mg 43 rfl)) rfl rfl ?_
          refine X_iload_n C 3 (dtL_8 (726, .iload_n 3, 1) (mg 44 rfl)) rfl rfl ?_
          refine X_iconst (v := nI (1)) C (dtL_8 (727, .iconst 1, 1) (mg 45 rfl)) (by decide) ?_
          refine X_iadd C (dtL_8 (728, .iadd, 1) (mg 46 rfl)) ?_
          refine X_ti (y := nI (i3 + 1)) (nI_add (i3) (1)) ?_
          refine X_sld (v := xs (i3 + 1)) C hSc (vp_in_nI (by omega) (by omega)) (dtL_8 (729, .iaload, 1) (mg 47 rfl)) (by rw [nI_clamp (by omega)]) ?_
          refine X_aload_n C 0 (dtL_8 (730, .aload_n 0, 1) (mg 48 rfl)) rfl rfl ?_
          refine X_iload_n C 3 (dtL_8 (731, .iload_n 3, 1) (mg 49 rfl)) rfl rfl ?_
          refine X_iconst (v := nI (2)) C (dtL_9 (732, .iconst 2, 1) (mg 0 rfl)) (by decide) ?_
          refine X_iadd C (dtL_9 (733, .iadd, 1) (mg 1 rfl)) ?_
          refine X_ti (y := nI (i3 + 2)) (nI_add (i3) (2)) ?_
          refine X_sld (v := xs (i3 + 2)) C hSc (vp_in_nI (by omega) (by omega)) (dtL_9 (734, .iaload, 1) (mg 2 rfl)) (by rw [nI_clamp (by omega)]) ?_
          refine X_aload_n C 0 (dtL_9 (735, .aload_n 0, 1) (mg 3 rfl)) rfl rfl ?_
          refine X_iload_n C 3 (dtL_9 (736, .iload_n 3, 1) (mg 4 rfl)) rfl rfl ?_
          refine X_iconst (v := nI (3)) C (dtL_9 (737, .iconst 3, 1) (mg 5 rfl)) (by decide) ?_
          refine X_iadd C (dtL_9 (738, .iadd, 1) (mg 6 rfl)) ?_
          refine X_ti (y := nI (i3 + 3)) (nI_add (i3) (3)) ?_
          refine X_sld (v := xs (i3 + 3)) C hSc (vp_in_nI (by omega) (by omega)) (dtL_9 (739, .iaload, 1) (mg 7 rfl)) (by rw [nI_clamp (by omega)]) ?_
          refine X_cV (As := [.int (xs (i3 + 1)), .int (xs (i3 + 2)), .int (xs (i3 + 3))]) (st := []) C (post := _) (x) (by omega) hC.2.1 rfl (ct_X7_mark hw hC (xs (i3 + 1)) (xs (i3 + 2)) (xs (i3 + 3)) (n := nm) hnm hp18 gp18 hma) kL_97 (by decide) (by decide) rfl rfl (Nat.le_of_ble_eq_true rfl) (dtL_9 (740, .invokevirtual 97, 3) (mg 8 rfl)) rfl (fun v145 H143 G144 hv145 => ?_)
          have hv1_ := hv145
          obtain ⟨⟨y1_, rfl⟩, hk1_⟩ := cKp_mark (n := nm) hJ.1.1 hnm hv1_
          show X k w _ 743 [some (.ref b), some (.ref (wA w (x))), some (.ref (wA w (m))), some (.int (nI (i3)))] [.int (y1_)] H143 G144
          have hMk := J_1 hxm hJ.1 hk1_
          obtain ⟨⟨⟨nu, hnu, eu⟩, ⟨c0, hc0, hat⟩, -⟩, ⟨⟨ms, hms, ese⟩, ⟨mm, hmm, ema⟩⟩, -, ⟨mt, hmt, etx⟩⟩ := id hMk
          refine X_aload_n C 2 (dtL_9 (743, .aload_n 2, 1) (mg 9 rfl)) rfl rfl ?_
          refine X_aload_n C 0 (dtL_9 (744, .aload_n 0, 1) (mg 10 rfl)) rfl rfl ?_
          refine X_iload_n C 3 (dtL_9 (745, .iload_n 3, 1) (mg 11 rfl)) rfl rfl ?_
          refine X_iconst (v := nI (1)) C (dtL_9 (746, .iconst 1, 1) (mg 12 rfl)) (by decide) ?_
          refine X_iadd C (dtL_9 (747, .iadd, 1) (mg 13 rfl)) ?_
          refine X_ti (y := nI (i3 + 1)) (nI_add (i3) (1)) ?_
          refine X_sld (v := xs (i3 + 1)) C hSc (vp_in_nI (by omega) (by omega)) (dtL_9 (748, .iaload, 1) (mg 14 rfl)) (by rw [nI_clamp (by omega)]) ?_
          refine X_aload_n C 0 (dtL_9 (749, .aload_n 0, 1) (mg 15 rfl)) rfl rfl ?_
          refine X_iload_n C 3 (dtL_9 (750, .iload_n 3, 1) (mg 16 rfl)) rfl rfl ?_
          refine X_iconst (v := nI (2)) C (dtL_9 (751, .iconst 2, 1) (mg 17 rfl)) (by decide) ?_
          refine X_iadd C (dtL_9 (752, .iadd, 1) (mg 18 rfl)) ?_
          refine X_ti (y := nI (i3 + 2)) (nI_add (i3) (2)) ?_
          refine X_sld (v := xs (i3 + 2)) C hSc (vp_in_nI (by omega) (by omega)) (dtL_9 (753, .iaload, 1) (mg 19 rfl)) (by rw [nI_clamp (by omega)]) ?_
          refine X_aload_n C 0 (dtL_9 (754, .aload_n 0, 1) (mg 20 rfl)) rfl rfl ?_
          refine X_iload_n C 3 (dtL_9 (755, .iload_n 3, 1) (mg 21 rfl)) rfl rfl ?_
          refine X_iconst (v := nI (3)) C (dtL_9 (756, .iconst 3, 1) (mg 22 rfl)) (by decide) ?_
          refine X_iadd C (dtL_9 (757, .iadd, 1) (mg 23 rfl)) ?_
          refine X_ti (y := nI (i3 + 3)) (nI_add (i3) (3)) ?_
          refine X_sld (v := xs (i3 + 3)) C hSc (vp_in_nI (by omega) (by omega)) (dtL_9 (758, .iaload, 1) (mg 24 rfl)) (by rw [nI_clamp (by omega)]) ?_
          refine X_cV (As := [.int (xs (i3 + 1)), .int (xs (i3 + 2)), .int (xs (i3 + 3))]) (st := [.int (y1_)]) C (post := _) (m) (by omega) hM.2.1 rfl (ct_X8_mark hw hM (xs (i3 + 1)) (xs (i3 + 2)) (xs (i3 + 3)) (n := nm) hnm H143 G144 ((hk1_.1 _ _ (by omega)).trans (hJ.2.2.1.2.2.2.2.1.symm.trans hma))) kL_101 (by decide) (by decide) rfl rfl (Nat.le_of_ble_eq_true rfl) (dtL_9 (759, .invokevirtual 101, 3) (mg 25 rfl)) rfl (fun v148 H146 G147 hv148 => ?_)
          have hv2_ := hv148
          obtain ⟨y2_, rfl⟩ := (mKp_mark hMk hnm hv2_).1
          obtain ⟨hJ2_, hvv_⟩ := JX_mark hxm hJ hnm hma hv1_ hv2_
          have heq_ : y1_ = y2_ := by injection hvv_ with z; injection z
          show X k w _ 762 [some (.ref b), some (.ref (wA w (x))), some (.ref (wA w (m))), some (.int (nI (i3)))] [.int (y2_), .int (y1_)] H146 G147
          refine X_icmp_eq (tgt := 1078) C (dtL_9 (762, .if_icmp .eq 316, 3) (mg 26 rfl)) (by decide) (fun q149 => ?_) (fun q149 => ?_)
          · skip
            refine X_iinc (v := nI (i3 + 5)) (ls' := [some (.ref b), some (.ref (wA w (x))), some (.ref (wA w (m))), some (.int (nI (i3 + 5)))]) C (dtL_14 (1078, .iinc 3 5, 3) (mg 12 rfl)) rfl (nI_add (i3) 5) rfl ?_
            refine X_goto (tgt := 18) C (dtL_14 (1081, .goto (-1063), 3) (mg 13 rfl)) (by decide) ?_
            refine X_eq (ls' := [some (.ref b), some (.ref (wA w (x))), some (.ref (wA w (m))), some (.int (nI (i3 + 5)))]) (st' := []) (h' := H146) (g' := G147) rfl rfl rfl rfl ?_
            exact ih18 (i3 + 5) (H146) (G147) (by omega) (Or.inr (by omega)) (by omega)
          · skip
            exact absurd heq_ q149
        · refine X_swIn (tgt := 767) C (dtL_0 (32, .tableswitch 1046 0 33 #[152, 185, 208, 241, 264, 277, 290, 323, 346, 369, 392, 405, 438, 471, 504, 527, 560, 593, 646, 669, 692, 735, 758, 771, 784, 817, 850, 883, 916, 940, 963, 986, 1009, 1032], 152) (mg 21 rfl)) (21) (by rw [q2]; decide) (by decide) (by decide) rfl (by decide) ?_
          refine X_aload_n C 1 (dtL_9 (767, .aload_n 1, 1) (mg 29 rfl)) rfl rfl ?_
          refine X_aload_n C 0 (dtL_9 (768, .aload_n 0, 1) (mg 30 rfl)) rfl rfl ?_
          refine X_iload_n C 3 (dtL_9 (769, .iload_n 3, 1) (mg 31 rfl)) rfl rfl ?_
          refine X_iconst (v := nI (1)) C (dtL_9 (770, .iconst 1, 1) (mg 32 rfl)) (by decide) ?_
          refine X_iadd C (dtL_9 (771, .iadd, 1) (mg 33 rfl)) ?_
          refine X_ti (y := nI (i3 + 1)) (nI_add (i3) (1)) ?_
          refine X_sld (v := xs (i3 + 1)) C hSc (vp_in_nI (by omega) (by omega)) (dtL_9 (772, .iaload, 1) (mg 34 rfl)) (by rw [nI_clamp (by omega)]) ?_
          refine X_cV (As := [.int (xs (i3 + 1))]) (st := []) C (post := _) (x) (by omega) hC.2.1 rfl (ct_X7_forget hw hC (xs (i3 + 1)) hp18 gp18) kL_102 (by decide) (by decide) rfl rfl (Nat.le_of_ble_eq_true rfl) (dtL_9 (773, .invokevirtual 102, 3) (mg 35 rfl)) rfl (fun v152 H150 G151 hv152 => ?_)
          have hv1_ := hv152
          obtain ⟨⟨y1_, rfl⟩, hk1_⟩ := cKp_forget hJ.1.1 hv1_
          show X k w _ 776 [some (.ref b), some (.ref (wA w (x))), some (.ref (wA w (m))), some (.int (nI (i3)))] [.int (y1_)] H150 G151
          have hMk := J_1 hxm hJ.1 hk1_
          obtain ⟨⟨⟨nu, hnu, eu⟩, ⟨c0, hc0, hat⟩, -⟩, ⟨⟨ms, hms, ese⟩, ⟨mm, hmm, ema⟩⟩, -, ⟨mt, hmt, etx⟩⟩ := id hMk
          refine X_aload_n C 2 (dtL_9 (776, .aload_n 2, 1) (mg 36 rfl)) rfl rfl ?_
          refine X_aload_n C 0 (dtL_9 (777, .aload_n 0, 1) (mg 37 rfl)) rfl rfl ?_
          refine X_iload_n C 3 (dtL_9 (778, .iload_n 3, 1) (mg 38 rfl)) rfl rfl ?_
          refine X_iconst (v := nI (1)) C (dtL_9 (779, .iconst 1, 1) (mg 39 rfl)) (by decide) ?_
          refine X_iadd C (dtL_9 (780, .iadd, 1) (mg 40 rfl)) ?_
          refine X_ti (y := nI (i3 + 1)) (nI_add (i3) (1)) ?_
          refine X_sld (v := xs (i3 + 1)) C hSc (vp_in_nI (by omega) (by omega)) (dtL_9 (781, .iaload, 1) (mg 41 rfl)) (by rw [nI_clamp (by omega)]) ?_
          refine X_cV (As := [.int (xs (i3 + 1))]) (st := [.int (y1_)]) C (post := _) (m) (by omega) hM.2.1 rfl (ct_X8_forget hw hM (xs (i3 + 1)) H150 G151) kL_105 (by decide) (by decide) rfl rfl (Nat.le_of_ble_eq_true rfl) (dtL_9 (782, .invokevirtual 105, 3) (mg 42 rfl)) rfl (fun v155 H153 G154 hv155 => ?_)
          have hv2_ := hv155
          obtain ⟨y2_, rfl⟩ := (mKp_forget hMk hv2_).1
          obtain ⟨hJ2_, hvv_⟩ := JX_forget hxm hJ hv1_ hv2_
          have heq_ : y1_ = y2_ := by injection hvv_ with z; injection z
          show X k w _ 785 [some (.ref b), some (.ref (wA w (x))), some (.ref (wA w (m))), some (.int (nI (i3)))] [.int (y2_), .int (y1_)] H153 G154
          refine X_icmp_eq (tgt := 1078) C (dtL_9 (785, .if_icmp .eq 293, 3) (mg 43 rfl)) (by decide) (fun q156 => ?_) (fun q156 => ?_)
          · skip
            refine X_iinc (v := nI (i3 + 5)) (ls' := [some (.ref b), some (.ref (wA w (x))), some (.ref (wA w (m))), some (.int (nI (i3 + 5)))]) C (dtL_14 (1078, .iinc 3 5, 3) (mg 12 rfl)) rfl (nI_add (i3) 5) rfl ?_
            refine X_goto (tgt := 18) C (dtL_14 (1081, .goto (-1063), 3) (mg 13 rfl)) (by decide) ?_
            refine X_eq (ls' := [some (.ref b), some (.ref (wA w (x))), some (.ref (wA w (m))), some (.int (nI (i3 + 5)))]) (st' := []) (h' := H153) (g' := G154) rfl rfl rfl rfl ?_
            exact ih18 (i3 + 5) (H153) (G154) (by omega) (Or.inr (by omega)) (by omega)
          · skip
            exact absurd heq_ q156
        · refine X_swIn (tgt := 790) C (dtL_0 (32, .tableswitch 1046 0 33 #[152, 185, 208, 241, 264, 277, 290, 323, 346, 369, 392, 405, 438, 471, 504, 527, 560, 593, 646, 669, 692, 735, 758, 771, 784, 817, 850, 883, 916, 940, 963, 986, 1009, 1032], 152) (mg 21 rfl)) (22) (by rw [q2]; decide) (by decide) (by decide) rfl (by decide) ?_
          refine X_aload_n C 1 (dtL_9 (790, .aload_n 1, 1) (mg 46 rfl)) rfl rfl ?_
          refine X_cV (As := []) (st := []) C (post := _) (x) (by omega) hC.2.1 rfl (cx_X7_kinds hw hC  (nm := nm) hnm hp18 gp18 hma) kL_106 (by decide) (by decide) rfl rfl (Nat.le_of_ble_eq_true rfl) (dtL_9 (791, .invokevirtual 106, 3) (mg 47 rfl)) rfl (fun v159 H157 G158 hv159 => ?_)
          have hv1_ := hv159
          obtain ⟨⟨y1_, rfl⟩, hk1_, hq1_⟩ := cKp_kn hJ.1.1 hv1_
          show X k w _ 794 [some (.ref b), some (.ref (wA w (x))), some (.ref (wA w (m))), some (.int (nI (i3)))] [.int (y1_)] H157 G158
          have hMk := J_1 hxm hJ.1 hk1_
          obtain ⟨⟨⟨nu, hnu, eu⟩, ⟨c0, hc0, hat⟩, -⟩, ⟨⟨ms, hms, ese⟩, ⟨mm, hmm, ema⟩⟩, -, ⟨mt, hmt, etx⟩⟩ := id hMk
          refine X_aload_n C 2 (dtL_9 (794, .aload_n 2, 1) (mg 48 rfl)) rfl rfl ?_
          refine X_cV (As := []) (st := [.int (y1_)]) C (post := _) (m) (by omega) hM.2.1 rfl (ct_X8_kinds hw hM  (n := nm) hnm H157 G158 ((hk1_.1 _ _ (by omega)).trans (hJ.2.2.1.2.2.2.2.1.symm.trans hma))) kL_109 (by decide) (by decide) rfl rfl (Nat.le_of_ble_eq_true rfl) (dtL_9 (795, .invokevirtual 109, 3) (mg 49 rfl)) rfl (fun v162 H160 G161 hv162 => ?_)
          have hv2_ := hv162
          have hq2_ := mQ_kinds (m := m) hv2_
          have hvv_ := lk_kn (kinds_e hnm hJ.2.2.1 hma (fun i => hk1_.1 _ _ (by omega))) hv1_ hv2_
          obtain ⟨⟨y2_, rfl⟩, hk2_⟩ := mKp_kinds hMk hv2_
          have heq_ : y1_ = y2_ := by injection hvv_ with z; injection z
          have hJ2_ := J2_kk hxm hJ hk1_ hk2_ hq1_ hq2_
          show X k w _ 798 [some (.ref b), some (.ref (wA w (x))), some (.ref (wA w (m))), some (.int (nI (i3)))] [.int (y2_), .int (y1_)] H160 G161
          refine X_icmp_eq (tgt := 1078) C (dtL_10 (798, .if_icmp .eq 280, 3) (mg 0 rfl)) (by decide) (fun q163 => ?_) (fun q163 => ?_)
          · skip
            refine X_iinc (v := nI (i3 + 5)) (ls' := [some (.ref b), some (.ref (wA w (x))), some (.ref (wA w (m))), some (.int (nI (i3 + 5)))]) C (dtL_14 (1078, .iinc 3 5, 3) (mg 12 rfl)) rfl (nI_add (i3) 5) rfl ?_
            refine X_goto (tgt := 18) C (dtL_14 (1081, .goto (-1063), 3) (mg 13 rfl)) (by decide) ?_
            refine X_eq (ls' := [some (.ref b), some (.ref (wA w (x))), some (.ref (wA w (m))), some (.int (nI (i3 + 5)))]) (st' := []) (h' := H160) (g' := G161) rfl rfl rfl rfl ?_
            exact ih18 (i3 + 5) (H160) (G161) (by omega) (Or.inr (by omega)) (by omega)
          · skip
            exact absurd heq_ q163
        · refine X_swIn (tgt := 803) C (dtL_0 (32, .tableswitch 1046 0 33 #[152, 185, 208, 241, 264, 277, 290, 323, 346, 369, 392, 405, 438, 471, 504, 527, 560, 593, 646, 669, 692, 735, 758, 771, 784, 817, 850, 883, 916, 940, 963, 986, 1009, 1032], 152) (mg 21 rfl)) (23) (by rw [q2]; decide) (by decide) (by decide) rfl (by decide) ?_
          refine X_aload_n C 1 (dtL_10 (803, .aload_n 1, 1) (mg 3 rfl)) rfl rfl ?_
          refine X_cV (As := []) (st := []) C (post := _) (x) (by omega) hC.2.1 rfl (cx_X7_ask hw hC  (nm := nm) hnm hp18 gp18 hma) kL_110 (by decide) (by decide) rfl rfl (Nat.le_of_ble_eq_true rfl) (dtL_10 (804, .invokevirtual 110, 3) (mg 4 rfl)) rfl (fun v166 H164 G165 hv166 => ?_)
          have hv1_ := hv166
          obtain ⟨hk1_, hq1_⟩ := cKp_fr hJ.1.1 hv1_.2
          obtain ⟨y1_, rfl⟩ : isI _ := ⟨_, hv1_.1⟩
          show X k w _ 807 [some (.ref b), some (.ref (wA w (x))), some (.ref (wA w (m))), some (.int (nI (i3)))] [.int (y1_)] H164 G165
          have hMk := J_1 hxm hJ.1 hk1_
          obtain ⟨⟨⟨nu, hnu, eu⟩, ⟨c0, hc0, hat⟩, -⟩, ⟨⟨ms, hms, ese⟩, ⟨mm, hmm, ema⟩⟩, -, ⟨mt, hmt, etx⟩⟩ := id hMk
          refine X_aload_n C 2 (dtL_10 (807, .aload_n 2, 1) (mg 5 rfl)) rfl rfl ?_
          refine X_cV (As := []) (st := [.int (y1_)]) C (post := _) (m) (by omega) hM.2.1 rfl (cx_X8_ask hw hM  (n := nm) hnm H164 G165 ((hk1_.1 _ _ (by omega)).trans (hJ.2.2.1.2.2.2.2.1.symm.trans hma))) kL_113 (by decide) (by decide) rfl rfl (Nat.le_of_ble_eq_true rfl) (dtL_10 (808, .invokevirtual 113, 3) (mg 6 rfl)) rfl (fun v169 H167 G168 hv169 => ?_)
          have hv2_ := hv169
          have hvv_ := hv1_.1.trans ((congrArg (fun z => some (Value.int z)) (ask_e hnm hJ.2.2.1 hma (fun i => hk1_.1 _ _ (by omega)))).trans hv2_.1.symm)
          obtain ⟨hk2_, hq2_⟩ := mKp_fr hMk hv2_.2
          obtain ⟨y2_, rfl⟩ : isI _ := ⟨_, hv2_.1⟩
          have heq_ : y1_ = y2_ := by injection hvv_ with z; injection z
          have hJ2_ := J2_kk hxm hJ hk1_ hk2_ hq1_ hq2_
          show X k w _ 811 [some (.ref b), some (.ref (wA w (x))), some (.ref (wA w (m))), some (.int (nI (i3)))] [.int (y2_), .int (y1_)] H167 G168
          refine X_icmp_eq (tgt := 1078) C (dtL_10 (811, .if_icmp .eq 267, 3) (mg 7 rfl)) (by decide) (fun q170 => ?_) (fun q170 => ?_)
          · skip
            refine X_iinc (v := nI (i3 + 5)) (ls' := [some (.ref b), some (.ref (wA w (x))), some (.ref (wA w (m))), some (.int (nI (i3 + 5)))]) C (dtL_14 (1078, .iinc 3 5, 3) (mg 12 rfl)) rfl (nI_add (i3) 5) rfl ?_
            refine X_goto (tgt := 18) C (dtL_14 (1081, .goto (-1063), 3) (mg 13 rfl)) (by decide) ?_
            refine X_eq (ls' := [some (.ref b), some (.ref (wA w (x))), some (.ref (wA w (m))), some (.int (nI (i3 + 5)))]) (st' := []) (h' := H167) (g' := G168) rfl rfl rfl rfl ?_
            exact ih18 (i3 + 5) (H167) (G168) (by omega) (Or.inr (by omega)) (by omega)
          · skip
            exact absurd heq_ q170
        · refine X_swIn (tgt := 816) C (dtL_0 (32, .tableswitch 1046 0 33 #[152, 185, 208, 241, 264, 277, 290, 323, 346, 369, 392, 405, 438, 471, 504, 527, 560, 593, 646, 669, 692, 735, 758, 771, 784, 817, 850, 883, 916, 940, 963, 986, 1009, 1032], 152) (mg 21 rfl)) (24) (by rw [q2]; decide) (by decide) (by decide) rfl (by decide) ?_
          refine X_aload_n C 1 (dtL_10 (816, .aload_n 1, 1) (mg 10 rfl)) rfl rfl ?_
          refine X_aload_n C 0 (dtL_10 (817, .aload_n 0, 1) (mg 11 rfl)) rfl rfl ?_
          refine X_iload_n C 3 (dtL_10 (818, .iload_n 3, 1) (mg 12 rfl)) rfl rfl ?_
          refine X_iconst (v := nI (1)) C (dtL_10 (819, .iconst 1, 1) (mg 13 rfl)) (by decide) ?_
          refine X_iadd C (dtL_10 (820, .iadd, 1) (mg 14 rfl)) ?_
          refine X_ti (y := nI (i3 + 1)) (nI_add (i3) (1)) ?_
          refine X_sld (v := xs (i3 + 1)) C hSc (vp_in_nI (by omega) (by omega)) (dtL_10 (821, .iaload, 1) (mg 15 rfl)) (by rw [nI_clamp (by omega)]) ?_
          refine X_aload_n C 0 (dtL_10 (822, .aload_n 0, 1) (mg 16 rfl)) rfl rfl ?_
          refine X_iload_n C 3 (dtL_10 (823, .iload_n 3, 1) (mg 17 rfl)) rfl rfl ?_
          refine X_iconst (v := nI (2)) C (dtL_10 (824, .iconst 2, 1) (mg 18 rfl)) (by decide) ?_
          refine X_iadd C (dtL_10 (825, .iadd, 1) (mg 19 rfl)) ?_
          refine X_ti (y := nI (i3 + 2)) (nI_add (i3) (2)) ?_
          refine X_sld (v := xs (i3 + 2)) C hSc (vp_in_nI (by omega) (by omega)) (dtL_10 (826, .iaload, 1) (mg 20 rfl)) (by rw [nI_clamp (by omega)]) ?_
          refine X_cV (As := [.int (xs (i3 + 1)), .int (xs (i3 + 2))]) (st := []) C (post := _) (x) (by omega) hC.2.1 rfl (cx_X7_deep hw hC (xs (i3 + 1)) (xs (i3 + 2)) hp18 gp18) kL_114 (by decide) (by decide) rfl rfl (Nat.le_of_ble_eq_true rfl) (dtL_10 (827, .invokevirtual 114, 3) (mg 21 rfl)) rfl (fun v173 H171 G172 hv173 => ?_)
          have hv1_ := hv173
          obtain ⟨⟨y1_, rfl⟩, hk1_, hq1_⟩ := cKp_look hJ.1.1 hv1_
          show X k w _ 830 [some (.ref b), some (.ref (wA w (x))), some (.ref (wA w (m))), some (.int (nI (i3)))] [.int (y1_)] H171 G172
          have hMk := J_1 hxm hJ.1 hk1_
          obtain ⟨⟨⟨nu, hnu, eu⟩, ⟨c0, hc0, hat⟩, -⟩, ⟨⟨ms, hms, ese⟩, ⟨mm, hmm, ema⟩⟩, -, ⟨mt, hmt, etx⟩⟩ := id hMk
          refine X_aload_n C 2 (dtL_10 (830, .aload_n 2, 1) (mg 22 rfl)) rfl rfl ?_
          refine X_aload_n C 0 (dtL_10 (831, .aload_n 0, 1) (mg 23 rfl)) rfl rfl ?_
          refine X_iload_n C 3 (dtL_10 (832, .iload_n 3, 1) (mg 24 rfl)) rfl rfl ?_
          refine X_iconst (v := nI (1)) C (dtL_10 (833, .iconst 1, 1) (mg 25 rfl)) (by decide) ?_
          refine X_iadd C (dtL_10 (834, .iadd, 1) (mg 26 rfl)) ?_
          refine X_ti (y := nI (i3 + 1)) (nI_add (i3) (1)) ?_
          refine X_sld (v := xs (i3 + 1)) C hSc (vp_in_nI (by omega) (by omega)) (dtL_10 (835, .iaload, 1) (mg 27 rfl)) (by rw [nI_clamp (by omega)]) ?_
          refine X_aload_n C 0 (dtL_10 (836, .aload_n 0, 1) (mg 28 rfl)) rfl rfl ?_
          refine X_iload_n C 3 (dtL_10 (837, .iload_n 3, 1) (mg 29 rfl)) rfl rfl ?_
          refine X_iconst (v := nI (2)) C (dtL_10 (838, .iconst 2, 1) (mg 30 rfl)) (by decide) ?_
          refine X_iadd C (dtL_10 (839, .iadd, 1) (mg 31 rfl)) ?_
          refine X_ti (y := nI (i3 + 2)) (nI_add (i3) (2)) ?_
          refine X_sld (v := xs (i3 + 2)) C hSc (vp_in_nI (by omega) (by omega)) (dtL_10 (840, .iaload, 1) (mg 32 rfl)) (by rw [nI_clamp (by omega)]) ?_
          refine X_cV (As := [.int (xs (i3 + 1)), .int (xs (i3 + 2))]) (st := [.int (y1_)]) C (post := _) (m) (by omega) hM.2.1 rfl (ct_X8_deep hw hM (xs (i3 + 1)) (xs (i3 + 2)) H171 G172) kL_117 (by decide) (by decide) rfl rfl (Nat.le_of_ble_eq_true rfl) (dtL_10 (841, .invokevirtual 117, 3) (mg 33 rfl)) rfl (fun v176 H174 G175 hv176 => ?_)
          have hv2_ := hv176
          have hq2_ := mQ_look (m := m) hv2_
          have hvv_ := lk_kk (fun u_ => deep_e (by omega) hJ.2.2.1 (fun i => hk1_.1 _ _ (by omega))) hv1_ hv2_
          obtain ⟨⟨y2_, rfl⟩, hk2_⟩ := mKp_look hMk hv2_
          have heq_ : y1_ = y2_ := by injection hvv_ with z; injection z
          have hJ2_ := J2_kk hxm hJ hk1_ hk2_ hq1_ hq2_
          show X k w _ 844 [some (.ref b), some (.ref (wA w (x))), some (.ref (wA w (m))), some (.int (nI (i3)))] [.int (y2_), .int (y1_)] H174 G175
          refine X_icmp_eq (tgt := 1078) C (dtL_10 (844, .if_icmp .eq 234, 3) (mg 34 rfl)) (by decide) (fun q177 => ?_) (fun q177 => ?_)
          · skip
            refine X_iinc (v := nI (i3 + 5)) (ls' := [some (.ref b), some (.ref (wA w (x))), some (.ref (wA w (m))), some (.int (nI (i3 + 5)))]) C (dtL_14 (1078, .iinc 3 5, 3) (mg 12 rfl)) rfl (nI_add (i3) 5) rfl ?_
            refine X_goto (tgt := 18) C (dtL_14 (1081, .goto (-1063), 3) (mg 13 rfl)) (by decide) ?_
            refine X_eq (ls' := [some (.ref b), some (.ref (wA w (x))), some (.ref (wA w (m))), some (.int (nI (i3 + 5)))]) (st' := []) (h' := H174) (g' := G175) rfl rfl rfl rfl ?_
            exact ih18 (i3 + 5) (H174) (G175) (by omega) (Or.inr (by omega)) (by omega)
          · skip
            exact absurd heq_ q177
        · refine X_swIn (tgt := 849) C (dtL_0 (32, .tableswitch 1046 0 33 #[152, 185, 208, 241, 264, 277, 290, 323, 346, 369, 392, 405, 438, 471, 504, 527, 560, 593, 646, 669, 692, 735, 758, 771, 784, 817, 850, 883, 916, 940, 963, 986, 1009, 1032], 152) (mg 21 rfl)) (25) (by rw [q2]; decide) (by decide) (by decide) rfl (by decide) ?_
          refine X_aload_n C 1 (dtL_10 (849, .aload_n 1, 1) (mg 37 rfl)) rfl rfl ?_
          refine X_aload_n C 0 (dtL_10 (850, .aload_n 0, 1) (mg 38 rfl)) rfl rfl ?_
          refine X_iload_n C 3 (dtL_10 (851, .iload_n 3, 1) (mg 39 rfl)) rfl rfl ?_
          refine X_iconst (v := nI (1)) C (dtL_10 (852, .iconst 1, 1) (mg 40 rfl)) (by decide) ?_
          refine X_iadd C (dtL_10 (853, .iadd, 1) (mg 41 rfl)) ?_
          refine X_ti (y := nI (i3 + 1)) (nI_add (i3) (1)) ?_
          refine X_sld (v := xs (i3 + 1)) C hSc (vp_in_nI (by omega) (by omega)) (dtL_10 (854, .iaload, 1) (mg 42 rfl)) (by rw [nI_clamp (by omega)]) ?_
          refine X_aload_n C 0 (dtL_10 (855, .aload_n 0, 1) (mg 43 rfl)) rfl rfl ?_
          refine X_iload_n C 3 (dtL_10 (856, .iload_n 3, 1) (mg 44 rfl)) rfl rfl ?_
          refine X_iconst (v := nI (2)) C (dtL_10 (857, .iconst 2, 1) (mg 45 rfl)) (by decide) ?_
          refine X_iadd C (dtL_10 (858, .iadd, 1) (mg 46 rfl)) ?_
          refine X_ti (y := nI (i3 + 2)) (nI_add (i3) (2)) ?_
          refine X_sld (v := xs (i3 + 2)) C hSc (vp_in_nI (by omega) (by omega)) (dtL_10 (859, .iaload, 1) (mg 47 rfl)) (by rw [nI_clamp (by omega)]) ?_
          refine X_cV (As := [.int (xs (i3 + 1)), .int (xs (i3 + 2))]) (st := []) C (post := _) (x) (by omega) hC.2.1 rfl (cx_X7_sparrow hw hC (xs (i3 + 1)) (xs (i3 + 2)) hp18 gp18 hCF) kL_118 (by decide) (by decide) rfl rfl (Nat.le_of_ble_eq_true rfl) (dtL_10 (860, .invokevirtual 118, 3) (mg 48 rfl)) rfl (fun v180 H178 G179 hv180 => ?_)
          obtain ⟨e1_, hf1_⟩ := hv180
          obtain ⟨y1_, rfl⟩ : isI _ := ⟨_, e1_⟩
          show X k w _ 863 [some (.ref b), some (.ref (wA w (x))), some (.ref (wA w (m))), some (.int (nI (i3)))] [.int (y1_)] H178 G179
          have hMF1 := mFr_k (fun q i z => hf1_ q i (by omega)) hMF
          refine X_aload_n C 2 (dtL_10 (863, .aload_n 2, 1) (mg 49 rfl)) rfl rfl ?_
          refine X_aload_n C 0 (dtL_11 (864, .aload_n 0, 1) (mg 0 rfl)) rfl rfl ?_
          refine X_iload_n C 3 (dtL_11 (865, .iload_n 3, 1) (mg 1 rfl)) rfl rfl ?_
          refine X_iconst (v := nI (1)) C (dtL_11 (866, .iconst 1, 1) (mg 2 rfl)) (by decide) ?_
          refine X_iadd C (dtL_11 (867, .iadd, 1) (mg 3 rfl)) ?_
          refine X_ti (y := nI (i3 + 1)) (nI_add (i3) (1)) ?_
          refine X_sld (v := xs (i3 + 1)) C hSc (vp_in_nI (by omega) (by omega)) (dtL_11 (868, .iaload, 1) (mg 4 rfl)) (by rw [nI_clamp (by omega)]) ?_
          refine X_aload_n C 0 (dtL_11 (869, .aload_n 0, 1) (mg 5 rfl)) rfl rfl ?_
          refine X_iload_n C 3 (dtL_11 (870, .iload_n 3, 1) (mg 6 rfl)) rfl rfl ?_
          refine X_iconst (v := nI (2)) C (dtL_11 (871, .iconst 2, 1) (mg 7 rfl)) (by decide) ?_
          refine X_iadd C (dtL_11 (872, .iadd, 1) (mg 8 rfl)) ?_
          refine X_ti (y := nI (i3 + 2)) (nI_add (i3) (2)) ?_
          refine X_sld (v := xs (i3 + 2)) C hSc (vp_in_nI (by omega) (by omega)) (dtL_11 (873, .iaload, 1) (mg 9 rfl)) (by rw [nI_clamp (by omega)]) ?_
          refine X_cV (As := [.int (xs (i3 + 1)), .int (xs (i3 + 2))]) (st := [.int (y1_)]) C (post := _) (m) (by omega) hM.2.1 rfl (cx_X8_sparrow hw hM (xs (i3 + 1)) (xs (i3 + 2)) H178 G179 hMF1) kL_121 (by decide) (by decide) rfl rfl (Nat.le_of_ble_eq_true rfl) (dtL_11 (874, .invokevirtual 121, 3) (mg 10 rfl)) rfl (fun v183 H181 G182 hv183 => ?_)
          have e2_ := hv183
          obtain ⟨y2_, rfl⟩ : isI _ := ⟨_, e2_⟩
          have heq_ : y1_ = y2_ := by (have z := e1_.trans e2_.symm; injection z with z; injection z)
          show X k w _ 877 [some (.ref b), some (.ref (wA w (x))), some (.ref (wA w (m))), some (.int (nI (i3)))] [.int (y2_), .int (y1_)] H181 G182
          refine X_icmp_eq (tgt := 1078) C (dtL_11 (877, .if_icmp .eq 201, 3) (mg 11 rfl)) (by decide) (fun q184 => ?_) (fun q184 => ?_)
          · skip
            refine X_iinc (v := nI (i3 + 5)) (ls' := [some (.ref b), some (.ref (wA w (x))), some (.ref (wA w (m))), some (.int (nI (i3 + 5)))]) C (dtL_14 (1078, .iinc 3 5, 3) (mg 12 rfl)) rfl (nI_add (i3) 5) rfl ?_
            refine X_goto (tgt := 18) C (dtL_14 (1081, .goto (-1063), 3) (mg 13 rfl)) (by decide) ?_
            refine X_eq (ls' := [some (.ref b), some (.ref (wA w (x))), some (.ref (wA w (m))), some (.int (nI (i3 + 5)))]) (st' := []) (h' := H181) (g' := G182) rfl rfl rfl rfl ?_
            exact ih18 (i3 + 5) (H181) (G182) (by omega) (Or.inr (by omega)) (by omega)
          · skip
            exact absurd heq_ q184
        · refine X_swIn (tgt := 882) C (dtL_0 (32, .tableswitch 1046 0 33 #[152, 185, 208, 241, 264, 277, 290, 323, 346, 369, 392, 405, 438, 471, 504, 527, 560, 593, 646, 669, 692, 735, 758, 771, 784, 817, 850, 883, 916, 940, 963, 986, 1009, 1032], 152) (mg 21 rfl)) (26) (by rw [q2]; decide) (by decide) (by decide) rfl (by decide) ?_
          refine X_aload_n C 1 (dtL_11 (882, .aload_n 1, 1) (mg 14 rfl)) rfl rfl ?_
          refine X_aload_n C 0 (dtL_11 (883, .aload_n 0, 1) (mg 15 rfl)) rfl rfl ?_
          refine X_iload_n C 3 (dtL_11 (884, .iload_n 3, 1) (mg 16 rfl)) rfl rfl ?_
          refine X_iconst (v := nI (1)) C (dtL_11 (885, .iconst 1, 1) (mg 17 rfl)) (by decide) ?_
          refine X_iadd C (dtL_11 (886, .iadd, 1) (mg 18 rfl)) ?_
          refine X_ti (y := nI (i3 + 1)) (nI_add (i3) (1)) ?_
          refine X_sld (v := xs (i3 + 1)) C hSc (vp_in_nI (by omega) (by omega)) (dtL_11 (887, .iaload, 1) (mg 19 rfl)) (by rw [nI_clamp (by omega)]) ?_
          refine X_aload_n C 0 (dtL_11 (888, .aload_n 0, 1) (mg 20 rfl)) rfl rfl ?_
          refine X_iload_n C 3 (dtL_11 (889, .iload_n 3, 1) (mg 21 rfl)) rfl rfl ?_
          refine X_iconst (v := nI (2)) C (dtL_11 (890, .iconst 2, 1) (mg 22 rfl)) (by decide) ?_
          refine X_iadd C (dtL_11 (891, .iadd, 1) (mg 23 rfl)) ?_
          refine X_ti (y := nI (i3 + 2)) (nI_add (i3) (2)) ?_
          refine X_sld (v := xs (i3 + 2)) C hSc (vp_in_nI (by omega) (by omega)) (dtL_11 (892, .iaload, 1) (mg 24 rfl)) (by rw [nI_clamp (by omega)]) ?_
          refine X_cV (As := [.int (xs (i3 + 1)), .int (xs (i3 + 2))]) (st := []) C (post := _) (x) (by omega) hC.2.1 rfl (ct_X7_frost hw hC (xs (i3 + 1)) (xs (i3 + 2)) hp18 gp18 hJ.1.1) kL_122 (by decide) (by decide) rfl rfl (Nat.le_of_ble_eq_true rfl) (dtL_11 (893, .invokevirtual 122, 3) (mg 25 rfl)) rfl (fun v187 H185 G186 hv187 => ?_)
          have hv1_ := hv187
          obtain ⟨⟨y1_, rfl⟩, hw1_⟩ := pQa_w hv1_
          have hk1_ := cKp_w hJ.1.1 hw1_
          have hq1_ : cQ x _ _ := hw1_.1
          show X k w _ 896 [some (.ref b), some (.ref (wA w (x))), some (.ref (wA w (m))), some (.int (nI (i3)))] [.int (y1_)] H185 G186
          have hMk := J_1 hxm hJ.1 hk1_
          obtain ⟨⟨⟨nu, hnu, eu⟩, ⟨c0, hc0, hat⟩, -⟩, ⟨⟨ms, hms, ese⟩, ⟨mm, hmm, ema⟩⟩, -, ⟨mt, hmt, etx⟩⟩ := id hMk
          refine X_aload_n C 2 (dtL_11 (896, .aload_n 2, 1) (mg 26 rfl)) rfl rfl ?_
          refine X_aload_n C 0 (dtL_11 (897, .aload_n 0, 1) (mg 27 rfl)) rfl rfl ?_
          refine X_iload_n C 3 (dtL_11 (898, .iload_n 3, 1) (mg 28 rfl)) rfl rfl ?_
          refine X_iconst (v := nI (1)) C (dtL_11 (899, .iconst 1, 1) (mg 29 rfl)) (by decide) ?_
          refine X_iadd C (dtL_11 (900, .iadd, 1) (mg 30 rfl)) ?_
          refine X_ti (y := nI (i3 + 1)) (nI_add (i3) (1)) ?_
          refine X_sld (v := xs (i3 + 1)) C hSc (vp_in_nI (by omega) (by omega)) (dtL_11 (901, .iaload, 1) (mg 31 rfl)) (by rw [nI_clamp (by omega)]) ?_
          refine X_aload_n C 0 (dtL_11 (902, .aload_n 0, 1) (mg 32 rfl)) rfl rfl ?_
          refine X_iload_n C 3 (dtL_11 (903, .iload_n 3, 1) (mg 33 rfl)) rfl rfl ?_
          refine X_iconst (v := nI (2)) C (dtL_11 (904, .iconst 2, 1) (mg 34 rfl)) (by decide) ?_
          refine X_iadd C (dtL_11 (905, .iadd, 1) (mg 35 rfl)) ?_
          refine X_ti (y := nI (i3 + 2)) (nI_add (i3) (2)) ?_
          refine X_sld (v := xs (i3 + 2)) C hSc (vp_in_nI (by omega) (by omega)) (dtL_11 (906, .iaload, 1) (mg 36 rfl)) (by rw [nI_clamp (by omega)]) ?_
          refine X_cV (As := [.int (xs (i3 + 1)), .int (xs (i3 + 2))]) (st := [.int (y1_)]) C (post := _) (m) (by omega) hM.2.1 rfl (ct_X8_frost hw hM (xs (i3 + 1)) (xs (i3 + 2)) H185 G186 hMk) kL_125 (by decide) (by decide) rfl rfl (Nat.le_of_ble_eq_true rfl) (dtL_11 (907, .invokevirtual 125, 3) (mg 37 rfl)) rfl (fun v190 H188 G189 hv190 => ?_)
          have hv2_ := hv190
          have hvv_ := pQa_e hv1_ hv2_
          obtain ⟨⟨y2_, rfl⟩, hw3_⟩ := pQa_w hv2_
          have hk2_ := mKp_w hMk hw3_
          have hq2_ := mQ_w hw3_
          have heq_ : y1_ = y2_ := by injection hvv_ with z; injection z
          have hJ2_ := J2_kk hxm hJ hk1_ hk2_ hq1_ hq2_
          show X k w _ 910 [some (.ref b), some (.ref (wA w (x))), some (.ref (wA w (m))), some (.int (nI (i3)))] [.int (y2_), .int (y1_)] H188 G189
          refine X_icmp_eq (tgt := 1078) C (dtL_11 (910, .if_icmp .eq 168, 3) (mg 38 rfl)) (by decide) (fun q191 => ?_) (fun q191 => ?_)
          · skip
            refine X_iinc (v := nI (i3 + 5)) (ls' := [some (.ref b), some (.ref (wA w (x))), some (.ref (wA w (m))), some (.int (nI (i3 + 5)))]) C (dtL_14 (1078, .iinc 3 5, 3) (mg 12 rfl)) rfl (nI_add (i3) 5) rfl ?_
            refine X_goto (tgt := 18) C (dtL_14 (1081, .goto (-1063), 3) (mg 13 rfl)) (by decide) ?_
            refine X_eq (ls' := [some (.ref b), some (.ref (wA w (x))), some (.ref (wA w (m))), some (.int (nI (i3 + 5)))]) (st' := []) (h' := H188) (g' := G189) rfl rfl rfl rfl ?_
            exact ih18 (i3 + 5) (H188) (G189) (by omega) (Or.inr (by omega)) (by omega)
          · skip
            exact absurd heq_ q191
        · refine X_swIn (tgt := 915) C (dtL_0 (32, .tableswitch 1046 0 33 #[152, 185, 208, 241, 264, 277, 290, 323, 346, 369, 392, 405, 438, 471, 504, 527, 560, 593, 646, 669, 692, 735, 758, 771, 784, 817, 850, 883, 916, 940, 963, 986, 1009, 1032], 152) (mg 21 rfl)) (27) (by rw [q2]; decide) (by decide) (by decide) rfl (by decide) ?_
          refine X_aload_n C 1 (dtL_11 (915, .aload_n 1, 1) (mg 41 rfl)) rfl rfl ?_
          refine X_aload_n C 0 (dtL_11 (916, .aload_n 0, 1) (mg 42 rfl)) rfl rfl ?_
          refine X_iload_n C 3 (dtL_11 (917, .iload_n 3, 1) (mg 43 rfl)) rfl rfl ?_
          refine X_iconst (v := nI (1)) C (dtL_11 (918, .iconst 1, 1) (mg 44 rfl)) (by decide) ?_
          refine X_iadd C (dtL_11 (919, .iadd, 1) (mg 45 rfl)) ?_
          refine X_ti (y := nI (i3 + 1)) (nI_add (i3) (1)) ?_
          refine X_sld (v := xs (i3 + 1)) C hSc (vp_in_nI (by omega) (by omega)) (dtL_11 (920, .iaload, 1) (mg 46 rfl)) (by rw [nI_clamp (by omega)]) ?_
          refine X_aload_n C 0 (dtL_11 (921, .aload_n 0, 1) (mg 47 rfl)) rfl rfl ?_
          refine X_iload_n C 3 (dtL_11 (922, .iload_n 3, 1) (mg 48 rfl)) rfl rfl ?_
          refine X_iconst (v := nI (2)) C (dtL_11 (923, .iconst 2, 1) (mg 49 rfl)) (by decide) ?_
          refine X_iadd C (dtL_12 (924, .iadd, 1) (mg 0 rfl)) ?_
          refine X_ti (y := nI (i3 + 2)) (nI_add (i3) (2)) ?_
          refine X_sld (v := xs (i3 + 2)) C hSc (vp_in_nI (by omega) (by omega)) (dtL_12 (925, .iaload, 1) (mg 1 rfl)) (by rw [nI_clamp (by omega)]) ?_
          refine X_cV (As := [.int (xs (i3 + 1)), .int (xs (i3 + 2))]) (st := []) C (post := _) (x) (by omega) hC.2.1 rfl (cx_X7_years hw hC (xs (i3 + 1)) (xs (i3 + 2)) hp18 gp18 hCF) kL_126 (by decide) (by decide) rfl rfl (Nat.le_of_ble_eq_true rfl) (dtL_12 (926, .invokevirtual 126, 3) (mg 2 rfl)) rfl (fun v194 H192 G193 hv194 => ?_)
          obtain ⟨e1_, hf1_⟩ := hv194
          obtain ⟨y1_, rfl⟩ : isI _ := ⟨_, e1_⟩
          show X k w _ 929 [some (.ref b), some (.ref (wA w (x))), some (.ref (wA w (m))), some (.int (nI (i3)))] [.int (y1_)] H192 G193
          have hMF1 := mFr_k (fun q i z => hf1_ q i (by omega)) hMF
          refine X_aload_n C 2 (dtL_12 (929, .aload_n 2, 1) (mg 3 rfl)) rfl rfl ?_
          refine X_aload_n C 0 (dtL_12 (930, .aload_n 0, 1) (mg 4 rfl)) rfl rfl ?_
          refine X_iload_n C 3 (dtL_12 (931, .iload_n 3, 1) (mg 5 rfl)) rfl rfl ?_
          refine X_iconst (v := nI (1)) C (dtL_12 (932, .iconst 1, 1) (mg 6 rfl)) (by decide) ?_
          refine X_iadd C (dtL_12 (933, .iadd, 1) (mg 7 rfl)) ?_
          refine X_ti (y := nI (i3 + 1)) (nI_add (i3) (1)) ?_
          refine X_sld (v := xs (i3 + 1)) C hSc (vp_in_nI (by omega) (by omega)) (dtL_12 (934, .iaload, 1) (mg 8 rfl)) (by rw [nI_clamp (by omega)]) ?_
          refine X_aload_n C 0 (dtL_12 (935, .aload_n 0, 1) (mg 9 rfl)) rfl rfl ?_
          refine X_iload_n C 3 (dtL_12 (936, .iload_n 3, 1) (mg 10 rfl)) rfl rfl ?_
          refine X_iconst (v := nI (2)) C (dtL_12 (937, .iconst 2, 1) (mg 11 rfl)) (by decide) ?_
          refine X_iadd C (dtL_12 (938, .iadd, 1) (mg 12 rfl)) ?_
          refine X_ti (y := nI (i3 + 2)) (nI_add (i3) (2)) ?_
          refine X_sld (v := xs (i3 + 2)) C hSc (vp_in_nI (by omega) (by omega)) (dtL_12 (939, .iaload, 1) (mg 13 rfl)) (by rw [nI_clamp (by omega)]) ?_
          refine X_cV (As := [.int (xs (i3 + 1)), .int (xs (i3 + 2))]) (st := [.int (y1_)]) C (post := _) (m) (by omega) hM.2.1 rfl (cx_X8_years hw hM (xs (i3 + 1)) (xs (i3 + 2)) H192 G193 hMF1) kL_129 (by decide) (by decide) rfl rfl (Nat.le_of_ble_eq_true rfl) (dtL_12 (940, .invokevirtual 129, 3) (mg 14 rfl)) rfl (fun v197 H195 G196 hv197 => ?_)
          have e2_ := hv197
          obtain ⟨y2_, rfl⟩ : isI _ := ⟨_, e2_⟩
          have heq_ : y1_ = y2_ := by (have z := e1_.trans e2_.symm; injection z with z; injection z)
          show X k w _ 943 [some (.ref b), some (.ref (wA w (x))), some (.ref (wA w (m))), some (.int (nI (i3)))] [.int (y2_), .int (y1_)] H195 G196
          refine X_icmp_eq (tgt := 1078) C (dtL_12 (943, .if_icmp .eq 135, 3) (mg 15 rfl)) (by decide) (fun q198 => ?_) (fun q198 => ?_)
          · skip
            refine X_iinc (v := nI (i3 + 5)) (ls' := [some (.ref b), some (.ref (wA w (x))), some (.ref (wA w (m))), some (.int (nI (i3 + 5)))]) C (dtL_14 (1078, .iinc 3 5, 3) (mg 12 rfl)) rfl (nI_add (i3) 5) rfl ?_
            refine X_goto (tgt := 18) C (dtL_14 (1081, .goto (-1063), 3) (mg 13 rfl)) (by decide) ?_
            refine X_eq (ls' := [some (.ref b), some (.ref (wA w (x))), some (.ref (wA w (m))), some (.int (nI (i3 + 5)))]) (st' := []) (h' := H195) (g' := G196) rfl rfl rfl rfl ?_
            exact ih18 (i3 + 5) (H195) (G196) (by omega) (Or.inr (by omega)) (by omega)
          · skip
            exact absurd heq_ q198
        · refine X_swIn (tgt := 948) C (dtL_0 (32, .tableswitch 1046 0 33 #[152, 185, 208, 241, 264, 277, 290, 323, 346, 369, 392, 405, 438, 471, 504, 527, 560, 593, 646, 669, 692, 735, 758, 771, 784, 817, 850, 883, 916, 940, 963, 986, 1009, 1032], 152) (mg 21 rfl)) (28) (by rw [q2]; decide) (by decide) (by decide) rfl (by decide) ?_
          refine X_aload_n C 1 (dtL_12 (948, .aload_n 1, 1) (mg 18 rfl)) rfl rfl ?_
          refine X_aload_n C 0 (dtL_12 (949, .aload_n 0, 1) (mg 19 rfl)) rfl rfl ?_
          refine X_iload_n C 3 (dtL_12 (950, .iload_n 3, 1) (mg 20 rfl)) rfl rfl ?_
          refine X_iconst (v := nI (1)) C (dtL_12 (951, .iconst 1, 1) (mg 21 rfl)) (by decide) ?_
          refine X_iadd C (dtL_12 (952, .iadd, 1) (mg 22 rfl)) ?_
          refine X_ti (y := nI (i3 + 1)) (nI_add (i3) (1)) ?_
          refine X_sld (v := xs (i3 + 1)) C hSc (vp_in_nI (by omega) (by omega)) (dtL_12 (953, .iaload, 1) (mg 23 rfl)) (by rw [nI_clamp (by omega)]) ?_
          refine X_cV (As := [.int (xs (i3 + 1))]) (st := []) C (post := _) (x) (by omega) hC.2.1 rfl (cx_X7_part hw hC (xs (i3 + 1)) hp18 gp18 hCF) kL_130 (by decide) (by decide) rfl rfl (Nat.le_of_ble_eq_true rfl) (dtL_12 (954, .invokevirtual 130, 3) (mg 24 rfl)) rfl (fun v201 H199 G200 hv201 => ?_)
          obtain ⟨e1_, hf1_, hg1_⟩ := hv201
          obtain ⟨y1_, rfl⟩ : ∃ y : Int64, _ = some (Value.long y) := ⟨_, e1_⟩
          show X k w _ 957 [some (.ref b), some (.ref (wA w (x))), some (.ref (wA w (m))), some (.int (nI (i3)))] [.long (y1_)] H199 G200
          have hMF1 := mFr_k (fun q i z => hf1_ q i (by omega)) hMF
          refine X_aload_n C 2 (dtL_12 (957, .aload_n 2, 1) (mg 25 rfl)) rfl rfl ?_
          refine X_aload_n C 0 (dtL_12 (958, .aload_n 0, 1) (mg 26 rfl)) rfl rfl ?_
          refine X_iload_n C 3 (dtL_12 (959, .iload_n 3, 1) (mg 27 rfl)) rfl rfl ?_
          refine X_iconst (v := nI (1)) C (dtL_12 (960, .iconst 1, 1) (mg 28 rfl)) (by decide) ?_
          refine X_iadd C (dtL_12 (961, .iadd, 1) (mg 29 rfl)) ?_
          refine X_ti (y := nI (i3 + 1)) (nI_add (i3) (1)) ?_
          refine X_sld (v := xs (i3 + 1)) C hSc (vp_in_nI (by omega) (by omega)) (dtL_12 (962, .iaload, 1) (mg 30 rfl)) (by rw [nI_clamp (by omega)]) ?_
          refine X_cV (As := [.int (xs (i3 + 1))]) (st := [.long (y1_)]) C (post := _) (m) (by omega) hM.2.1 rfl (ct_X8_part hw hM (xs (i3 + 1)) H199 G200) kL_134 (by decide) (by decide) rfl rfl (Nat.le_of_ble_eq_true rfl) (dtL_12 (963, .invokevirtual 134, 3) (mg 31 rfl)) rfl (fun v204 H202 G203 hv204 => ?_)
          have e2_ := rf_part hMF1 hv204
          rw [hg1_, ← hGF.1, ← hGF.2] at e2_
          obtain ⟨y2_, rfl⟩ : ∃ y : Int64, _ = some (Value.long y) := ⟨_, e2_⟩
          have heq_ : y1_ = y2_ := by (have z := e1_.trans e2_.symm; injection z with z; injection z)
          show X k w _ 966 [some (.ref b), some (.ref (wA w (x))), some (.ref (wA w (m))), some (.int (nI (i3)))] [.long (y2_), .long (y1_)] H202 G203
          refine X_lcmp C (dtL_12 (966, .lcmp, 1) (mg 32 rfl)) ?_
          refine X_if_eq (tgt := 1078) C (dtL_12 (967, .ifCond .eq 111, 3) (mg 33 rfl)) (by decide) (fun q205 => ?_) (fun q205 => ?_)
          · skip
            refine X_iinc (v := nI (i3 + 5)) (ls' := [some (.ref b), some (.ref (wA w (x))), some (.ref (wA w (m))), some (.int (nI (i3 + 5)))]) C (dtL_14 (1078, .iinc 3 5, 3) (mg 12 rfl)) rfl (nI_add (i3) 5) rfl ?_
            refine X_goto (tgt := 18) C (dtL_14 (1081, .goto (-1063), 3) (mg 13 rfl)) (by decide) ?_
            refine X_eq (ls' := [some (.ref b), some (.ref (wA w (x))), some (.ref (wA w (m))), some (.int (nI (i3 + 5)))]) (st' := []) (h' := H202) (g' := G203) rfl rfl rfl rfl ?_
            exact ih18 (i3 + 5) (H202) (G203) (by omega) (Or.inr (by omega)) (by omega)
          · skip
            exact absurd (lgc_e heq_) q205
        · refine X_swIn (tgt := 972) C (dtL_0 (32, .tableswitch 1046 0 33 #[152, 185, 208, 241, 264, 277, 290, 323, 346, 369, 392, 405, 438, 471, 504, 527, 560, 593, 646, 669, 692, 735, 758, 771, 784, 817, 850, 883, 916, 940, 963, 986, 1009, 1032], 152) (mg 21 rfl)) (29) (by rw [q2]; decide) (by decide) (by decide) rfl (by decide) ?_
          refine X_aload_n C 1 (dtL_12 (972, .aload_n 1, 1) (mg 36 rfl)) rfl rfl ?_
          refine X_aload_n C 0 (dtL_12 (973, .aload_n 0, 1) (mg 37 rfl)) rfl rfl ?_
          refine X_iload_n C 3 (dtL_12 (974, .iload_n 3, 1) (mg 38 rfl)) rfl rfl ?_
          refine X_iconst (v := nI (1)) C (dtL_12 (975, .iconst 1, 1) (mg 39 rfl)) (by decide) ?_
          refine X_iadd C (dtL_12 (976, .iadd, 1) (mg 40 rfl)) ?_
          refine X_ti (y := nI (i3 + 1)) (nI_add (i3) (1)) ?_
          refine X_sld (v := xs (i3 + 1)) C hSc (vp_in_nI (by omega) (by omega)) (dtL_12 (977, .iaload, 1) (mg 41 rfl)) (by rw [nI_clamp (by omega)]) ?_
          refine X_cV (As := [.int (xs (i3 + 1))]) (st := []) C (post := _) (x) (by omega) hC.2.1 rfl (ct_X7_image hw hC (xs (i3 + 1)) hp18 gp18) kL_135 (by decide) (by decide) rfl rfl (Nat.le_of_ble_eq_true rfl) (dtL_12 (978, .invokevirtual 135, 3) (mg 42 rfl)) rfl (fun v208 H206 G207 hv208 => ?_)
          have hv1_ := hv208
          obtain ⟨y1_, rfl⟩ := imC_i (x := x) (a := xs (i3 + 1)) hv1_
          show X k w _ 981 [some (.ref b), some (.ref (wA w (x))), some (.ref (wA w (m))), some (.int (nI (i3)))] [.int (y1_)] H206 G207
          refine X_aload_n C 2 (dtL_12 (981, .aload_n 2, 1) (mg 43 rfl)) rfl rfl ?_
          refine X_aload_n C 0 (dtL_12 (982, .aload_n 0, 1) (mg 44 rfl)) rfl rfl ?_
          refine X_iload_n C 3 (dtL_12 (983, .iload_n 3, 1) (mg 45 rfl)) rfl rfl ?_
          refine X_iconst (v := nI (1)) C (dtL_12 (984, .iconst 1, 1) (mg 46 rfl)) (by decide) ?_
          refine X_iadd C (dtL_12 (985, .iadd, 1) (mg 47 rfl)) ?_
          refine X_ti (y := nI (i3 + 1)) (nI_add (i3) (1)) ?_
          refine X_sld (v := xs (i3 + 1)) C hSc (vp_in_nI (by omega) (by omega)) (dtL_12 (986, .iaload, 1) (mg 48 rfl)) (by rw [nI_clamp (by omega)]) ?_
          refine X_cV (As := [.int (xs (i3 + 1))]) (st := [.int (y1_)]) C (post := _) (m) (by omega) hM.2.1 rfl (ct_X8_image hw hM (xs (i3 + 1)) H206 G207) kL_138 (by decide) (by decide) rfl rfl (Nat.le_of_ble_eq_true rfl) (dtL_12 (987, .invokevirtual 138, 3) (mg 49 rfl)) rfl (fun v211 H209 G210 hv211 => ?_)
          have hv2_ := hv211
          obtain ⟨y2_, rfl⟩ := imM_i (m := m) (a := xs (i3 + 1)) hv2_
          obtain ⟨hJ2_, hvv_⟩ := JX_image (a := xs (i3 + 1)) hxm hJ hv1_ hv2_
          have heq_ : y1_ = y2_ := by injection hvv_ with z; injection z
          show X k w _ 990 [some (.ref b), some (.ref (wA w (x))), some (.ref (wA w (m))), some (.int (nI (i3)))] [.int (y2_), .int (y1_)] H209 G210
          refine X_icmp_eq (tgt := 1078) C (dtL_13 (990, .if_icmp .eq 88, 3) (mg 0 rfl)) (by decide) (fun q212 => ?_) (fun q212 => ?_)
          · skip
            refine X_iinc (v := nI (i3 + 5)) (ls' := [some (.ref b), some (.ref (wA w (x))), some (.ref (wA w (m))), some (.int (nI (i3 + 5)))]) C (dtL_14 (1078, .iinc 3 5, 3) (mg 12 rfl)) rfl (nI_add (i3) 5) rfl ?_
            refine X_goto (tgt := 18) C (dtL_14 (1081, .goto (-1063), 3) (mg 13 rfl)) (by decide) ?_
            refine X_eq (ls' := [some (.ref b), some (.ref (wA w (x))), some (.ref (wA w (m))), some (.int (nI (i3 + 5)))]) (st' := []) (h' := H209) (g' := G210) rfl rfl rfl rfl ?_
            exact ih18 (i3 + 5) (H209) (G210) (by omega) (Or.inr (by omega)) (by omega)
          · skip
            exact absurd heq_ q212
        · refine X_swIn (tgt := 995) C (dtL_0 (32, .tableswitch 1046 0 33 #[152, 185, 208, 241, 264, 277, 290, 323, 346, 369, 392, 405, 438, 471, 504, 527, 560, 593, 646, 669, 692, 735, 758, 771, 784, 817, 850, 883, 916, 940, 963, 986, 1009, 1032], 152) (mg 21 rfl)) (30) (by rw [q2]; decide) (by decide) (by decide) rfl (by decide) ?_
          refine X_aload_n C 1 (dtL_13 (995, .aload_n 1, 1) (mg 3 rfl)) rfl rfl ?_
          refine X_aload_n C 0 (dtL_13 (996, .aload_n 0, 1) (mg 4 rfl)) rfl rfl ?_
          refine X_iload_n C 3 (dtL_13 (997, .iload_n 3, 1) (mg 5 rfl)) rfl rfl ?_
          refine X_iconst (v := nI (1)) C (dtL_13 (998, .iconst 1, 1) (mg 6 rfl)) (by decide) ?_
          refine X_iadd C (dtL_13 (999, .iadd, 1) (mg 7 rfl)) ?_
          refine X_ti (y := nI (i3 + 1)) (nI_add (i3) (1)) ?_
          refine X_sld (v := xs (i3 + 1)) C hSc (vp_in_nI (by omega) (by omega)) (dtL_13 (1000, .iaload, 1) (mg 8 rfl)) (by rw [nI_clamp (by omega)]) ?_
          refine X_cV (As := [.int (xs (i3 + 1))]) (st := []) C (post := _) (x) (by omega) hC.2.1 rfl (ct_X7_from hw hC (xs (i3 + 1)) hp18 gp18) kL_139 (by decide) (by decide) rfl rfl (Nat.le_of_ble_eq_true rfl) (dtL_13 (1001, .invokevirtual 139, 3) (mg 9 rfl)) rfl (fun v215 H213 G214 hv215 => ?_)
          have hv1_ := hv215
          obtain ⟨y1_, rfl⟩ := frC_i (x := x) (a := xs (i3 + 1)) hv1_
          show X k w _ 1004 [some (.ref b), some (.ref (wA w (x))), some (.ref (wA w (m))), some (.int (nI (i3)))] [.int (y1_)] H213 G214
          refine X_aload_n C 2 (dtL_13 (1004, .aload_n 2, 1) (mg 10 rfl)) rfl rfl ?_
          refine X_aload_n C 0 (dtL_13 (1005, .aload_n 0, 1) (mg 11 rfl)) rfl rfl ?_
          refine X_iload_n C 3 (dtL_13 (1006, .iload_n 3, 1) (mg 12 rfl)) rfl rfl ?_
          refine X_iconst (v := nI (1)) C (dtL_13 (1007, .iconst 1, 1) (mg 13 rfl)) (by decide) ?_
          refine X_iadd C (dtL_13 (1008, .iadd, 1) (mg 14 rfl)) ?_
          refine X_ti (y := nI (i3 + 1)) (nI_add (i3) (1)) ?_
          refine X_sld (v := xs (i3 + 1)) C hSc (vp_in_nI (by omega) (by omega)) (dtL_13 (1009, .iaload, 1) (mg 15 rfl)) (by rw [nI_clamp (by omega)]) ?_
          refine X_cV (As := [.int (xs (i3 + 1))]) (st := [.int (y1_)]) C (post := _) (m) (by omega) hM.2.1 rfl (ct_X8_from hw hM (xs (i3 + 1)) H213 G214) kL_142 (by decide) (by decide) rfl rfl (Nat.le_of_ble_eq_true rfl) (dtL_13 (1010, .invokevirtual 142, 3) (mg 16 rfl)) rfl (fun v218 H216 G217 hv218 => ?_)
          have hv2_ := hv218
          obtain ⟨y2_, rfl⟩ := frM_i (m := m) (a := xs (i3 + 1)) hv2_
          obtain ⟨hJ2_, hvv_⟩ := JX_from (a := xs (i3 + 1)) hxm hJ hv1_ hv2_
          have heq_ : y1_ = y2_ := by injection hvv_ with z; injection z
          show X k w _ 1013 [some (.ref b), some (.ref (wA w (x))), some (.ref (wA w (m))), some (.int (nI (i3)))] [.int (y2_), .int (y1_)] H216 G217
          refine X_icmp_eq (tgt := 1078) C (dtL_13 (1013, .if_icmp .eq 65, 3) (mg 17 rfl)) (by decide) (fun q219 => ?_) (fun q219 => ?_)
          · skip
            refine X_iinc (v := nI (i3 + 5)) (ls' := [some (.ref b), some (.ref (wA w (x))), some (.ref (wA w (m))), some (.int (nI (i3 + 5)))]) C (dtL_14 (1078, .iinc 3 5, 3) (mg 12 rfl)) rfl (nI_add (i3) 5) rfl ?_
            refine X_goto (tgt := 18) C (dtL_14 (1081, .goto (-1063), 3) (mg 13 rfl)) (by decide) ?_
            refine X_eq (ls' := [some (.ref b), some (.ref (wA w (x))), some (.ref (wA w (m))), some (.int (nI (i3 + 5)))]) (st' := []) (h' := H216) (g' := G217) rfl rfl rfl rfl ?_
            exact ih18 (i3 + 5) (H216) (G217) (by omega) (Or.inr (by omega)) (by omega)
          · skip
            exact absurd heq_ q219
        · refine X_swIn (tgt := 1018) C (dtL_0 (32, .tableswitch 1046 0 33 #[152, 185, 208, 241, 264, 277, 290, 323, 346, 369, 392, 405, 438, 471, 504, 527, 560, 593, 646, 669, 692, 735, 758, 771, 784, 817, 850, 883, 916, 940, 963, 986, 1009, 1032], 152) (mg 21 rfl)) (31) (by rw [q2]; decide) (by decide) (by decide) rfl (by decide) ?_
          refine X_aload_n C 1 (dtL_13 (1018, .aload_n 1, 1) (mg 20 rfl)) rfl rfl ?_
          refine X_aload_n C 0 (dtL_13 (1019, .aload_n 0, 1) (mg 21 rfl)) rfl rfl ?_
          refine X_iload_n C 3 (dtL_13 (1020, .iload_n 3, 1) (mg 22 rfl)) rfl rfl ?_
          refine X_iconst (v := nI (1)) C (dtL_13 (1021, .iconst 1, 1) (mg 23 rfl)) (by decide) ?_
          refine X_iadd C (dtL_13 (1022, .iadd, 1) (mg 24 rfl)) ?_
          refine X_ti (y := nI (i3 + 1)) (nI_add (i3) (1)) ?_
          refine X_sld (v := xs (i3 + 1)) C hSc (vp_in_nI (by omega) (by omega)) (dtL_13 (1023, .iaload, 1) (mg 25 rfl)) (by rw [nI_clamp (by omega)]) ?_
          refine X_cV (As := [.int (xs (i3 + 1))]) (st := []) C (post := _) (x) (by omega) hC.2.1 rfl (cx_X7_status hw hC (xs (i3 + 1)) hp18 gp18 hCF) kL_143 (by decide) (by decide) rfl rfl (Nat.le_of_ble_eq_true rfl) (dtL_13 (1024, .invokevirtual 143, 3) (mg 26 rfl)) rfl (fun v222 H220 G221 hv222 => ?_)
          obtain ⟨e1_, hf1_⟩ := hv222
          obtain ⟨y1_, rfl⟩ : isI _ := ⟨_, e1_⟩
          show X k w _ 1027 [some (.ref b), some (.ref (wA w (x))), some (.ref (wA w (m))), some (.int (nI (i3)))] [.int (y1_)] H220 G221
          have hMF1 := mFr_k (fun q i z => hf1_ q i (by omega)) hMF
          refine X_aload_n C 2 (dtL_13 (1027, .aload_n 2, 1) (mg 27 rfl)) rfl rfl ?_
          refine X_aload_n C 0 (dtL_13 (1028, .aload_n 0, 1) (mg 28 rfl)) rfl rfl ?_
          refine X_iload_n C 3 (dtL_13 (1029, .iload_n 3, 1) (mg 29 rfl)) rfl rfl ?_
          refine X_iconst (v := nI (1)) C (dtL_13 (1030, .iconst 1, 1) (mg 30 rfl)) (by decide) ?_
          refine X_iadd C (dtL_13 (1031, .iadd, 1) (mg 31 rfl)) ?_
          refine X_ti (y := nI (i3 + 1)) (nI_add (i3) (1)) ?_
          refine X_sld (v := xs (i3 + 1)) C hSc (vp_in_nI (by omega) (by omega)) (dtL_13 (1032, .iaload, 1) (mg 32 rfl)) (by rw [nI_clamp (by omega)]) ?_
          refine X_cV (As := [.int (xs (i3 + 1))]) (st := [.int (y1_)]) C (post := _) (m) (by omega) hM.2.1 rfl (ct_X8_status hw hM (xs (i3 + 1)) H220 G221) kL_146 (by decide) (by decide) rfl rfl (Nat.le_of_ble_eq_true rfl) (dtL_13 (1033, .invokevirtual 146, 3) (mg 33 rfl)) rfl (fun v225 H223 G224 hv225 => ?_)
          have e2_ := rf_status hMF1 hv225
          obtain ⟨y2_, rfl⟩ : isI _ := ⟨_, e2_⟩
          have heq_ : y1_ = y2_ := by (have z := e1_.trans e2_.symm; injection z with z; injection z)
          show X k w _ 1036 [some (.ref b), some (.ref (wA w (x))), some (.ref (wA w (m))), some (.int (nI (i3)))] [.int (y2_), .int (y1_)] H223 G224
          refine X_icmp_eq (tgt := 1078) C (dtL_13 (1036, .if_icmp .eq 42, 3) (mg 34 rfl)) (by decide) (fun q226 => ?_) (fun q226 => ?_)
          · skip
            refine X_iinc (v := nI (i3 + 5)) (ls' := [some (.ref b), some (.ref (wA w (x))), some (.ref (wA w (m))), some (.int (nI (i3 + 5)))]) C (dtL_14 (1078, .iinc 3 5, 3) (mg 12 rfl)) rfl (nI_add (i3) 5) rfl ?_
            refine X_goto (tgt := 18) C (dtL_14 (1081, .goto (-1063), 3) (mg 13 rfl)) (by decide) ?_
            refine X_eq (ls' := [some (.ref b), some (.ref (wA w (x))), some (.ref (wA w (m))), some (.int (nI (i3 + 5)))]) (st' := []) (h' := H223) (g' := G224) rfl rfl rfl rfl ?_
            exact ih18 (i3 + 5) (H223) (G224) (by omega) (Or.inr (by omega)) (by omega)
          · skip
            exact absurd heq_ q226
        · refine X_swIn (tgt := 1041) C (dtL_0 (32, .tableswitch 1046 0 33 #[152, 185, 208, 241, 264, 277, 290, 323, 346, 369, 392, 405, 438, 471, 504, 527, 560, 593, 646, 669, 692, 735, 758, 771, 784, 817, 850, 883, 916, 940, 963, 986, 1009, 1032], 152) (mg 21 rfl)) (32) (by rw [q2]; decide) (by decide) (by decide) rfl (by decide) ?_
          refine X_aload_n C 1 (dtL_13 (1041, .aload_n 1, 1) (mg 37 rfl)) rfl rfl ?_
          refine X_aload_n C 0 (dtL_13 (1042, .aload_n 0, 1) (mg 38 rfl)) rfl rfl ?_
          refine X_iload_n C 3 (dtL_13 (1043, .iload_n 3, 1) (mg 39 rfl)) rfl rfl ?_
          refine X_iconst (v := nI (1)) C (dtL_13 (1044, .iconst 1, 1) (mg 40 rfl)) (by decide) ?_
          refine X_iadd C (dtL_13 (1045, .iadd, 1) (mg 41 rfl)) ?_
          refine X_ti (y := nI (i3 + 1)) (nI_add (i3) (1)) ?_
          refine X_sld (v := xs (i3 + 1)) C hSc (vp_in_nI (by omega) (by omega)) (dtL_13 (1046, .iaload, 1) (mg 42 rfl)) (by rw [nI_clamp (by omega)]) ?_
          refine X_cV (As := [.int (xs (i3 + 1))]) (st := []) C (post := _) (x) (by omega) hC.2.1 rfl (cx_X7_count hw hC (xs (i3 + 1)) hp18 gp18 hCF) kL_147 (by decide) (by decide) rfl rfl (Nat.le_of_ble_eq_true rfl) (dtL_13 (1047, .invokevirtual 147, 3) (mg 43 rfl)) rfl (fun v229 H227 G228 hv229 => ?_)
          obtain ⟨e1_, hf1_⟩ := hv229
          obtain ⟨y1_, rfl⟩ : isI _ := ⟨_, e1_⟩
          show X k w _ 1050 [some (.ref b), some (.ref (wA w (x))), some (.ref (wA w (m))), some (.int (nI (i3)))] [.int (y1_)] H227 G228
          have hMF1 := mFr_k (fun q i z => hf1_ q i (by omega)) hMF
          refine X_aload_n C 2 (dtL_13 (1050, .aload_n 2, 1) (mg 44 rfl)) rfl rfl ?_
          refine X_aload_n C 0 (dtL_13 (1051, .aload_n 0, 1) (mg 45 rfl)) rfl rfl ?_
          refine X_iload_n C 3 (dtL_13 (1052, .iload_n 3, 1) (mg 46 rfl)) rfl rfl ?_
          refine X_iconst (v := nI (1)) C (dtL_13 (1053, .iconst 1, 1) (mg 47 rfl)) (by decide) ?_
          refine X_iadd C (dtL_13 (1054, .iadd, 1) (mg 48 rfl)) ?_
          refine X_ti (y := nI (i3 + 1)) (nI_add (i3) (1)) ?_
          refine X_sld (v := xs (i3 + 1)) C hSc (vp_in_nI (by omega) (by omega)) (dtL_13 (1055, .iaload, 1) (mg 49 rfl)) (by rw [nI_clamp (by omega)]) ?_
          refine X_cV (As := [.int (xs (i3 + 1))]) (st := [.int (y1_)]) C (post := _) (m) (by omega) hM.2.1 rfl (ct_X8_count hw hM (xs (i3 + 1)) H227 G228) kL_150 (by decide) (by decide) rfl rfl (Nat.le_of_ble_eq_true rfl) (dtL_14 (1056, .invokevirtual 150, 3) (mg 0 rfl)) rfl (fun v232 H230 G231 hv232 => ?_)
          have e2_ := rf_count hMF1 hv232
          obtain ⟨y2_, rfl⟩ : isI _ := ⟨_, e2_⟩
          have heq_ : y1_ = y2_ := by (have z := e1_.trans e2_.symm; injection z with z; injection z)
          show X k w _ 1059 [some (.ref b), some (.ref (wA w (x))), some (.ref (wA w (m))), some (.int (nI (i3)))] [.int (y2_), .int (y1_)] H230 G231
          refine X_icmp_eq (tgt := 1078) C (dtL_14 (1059, .if_icmp .eq 19, 3) (mg 1 rfl)) (by decide) (fun q233 => ?_) (fun q233 => ?_)
          · skip
            refine X_iinc (v := nI (i3 + 5)) (ls' := [some (.ref b), some (.ref (wA w (x))), some (.ref (wA w (m))), some (.int (nI (i3 + 5)))]) C (dtL_14 (1078, .iinc 3 5, 3) (mg 12 rfl)) rfl (nI_add (i3) 5) rfl ?_
            refine X_goto (tgt := 18) C (dtL_14 (1081, .goto (-1063), 3) (mg 13 rfl)) (by decide) ?_
            refine X_eq (ls' := [some (.ref b), some (.ref (wA w (x))), some (.ref (wA w (m))), some (.int (nI (i3 + 5)))]) (st' := []) (h' := H230) (g' := G231) rfl rfl rfl rfl ?_
            exact ih18 (i3 + 5) (H230) (G231) (by omega) (Or.inr (by omega)) (by omega)
          · skip
            exact absurd heq_ q233
        · refine X_swIn (tgt := 1064) C (dtL_0 (32, .tableswitch 1046 0 33 #[152, 185, 208, 241, 264, 277, 290, 323, 346, 369, 392, 405, 438, 471, 504, 527, 560, 593, 646, 669, 692, 735, 758, 771, 784, 817, 850, 883, 916, 940, 963, 986, 1009, 1032], 152) (mg 21 rfl)) (33) (by rw [q2]; decide) (by decide) (by decide) rfl (by decide) ?_
          refine X_aload_n C 1 (dtL_14 (1064, .aload_n 1, 1) (mg 4 rfl)) rfl rfl ?_
          refine X_cV (As := []) (st := []) C (post := _) (x) (by omega) hC.2.1 rfl (cx_X7_digest hw hC  hp18 gp18 hCF) kL_151 (by decide) (by decide) rfl rfl (Nat.le_of_ble_eq_true rfl) (dtL_14 (1065, .invokevirtual 151, 3) (mg 5 rfl)) rfl (fun v236 H234 G235 hv236 => ?_)
          obtain ⟨e1_, hf1_, hg1_⟩ := hv236
          obtain ⟨y1_, rfl⟩ : ∃ y : Int64, _ = some (Value.long y) := ⟨_, e1_⟩
          show X k w _ 1068 [some (.ref b), some (.ref (wA w (x))), some (.ref (wA w (m))), some (.int (nI (i3)))] [.long (y1_)] H234 G235
          have hMF1 := mFr_k (fun q i z => hf1_ q i (by omega)) hMF
          refine X_aload_n C 2 (dtL_14 (1068, .aload_n 2, 1) (mg 6 rfl)) rfl rfl ?_
          refine X_cV (As := []) (st := [.long (y1_)]) C (post := _) (m) (by omega) hM.2.1 rfl (cx_X8_digest hw hM  H234 G235 hMF1) kL_155 (by decide) (by decide) rfl rfl (Nat.le_of_ble_eq_true rfl) (dtL_14 (1069, .invokevirtual 155, 3) (mg 7 rfl)) rfl (fun v239 H237 G238 hv239 => ?_)
          have e2_ := hv239
          have e2_ : _ = some (Value.long (31 * (31 * dg2 25 + _) + _)) := e2_
          rw [hg1_, ← hGF.1, ← hGF.2] at e2_
          obtain ⟨y2_, rfl⟩ : ∃ y : Int64, _ = some (Value.long y) := ⟨_, e2_⟩
          have heq_ : y1_ = y2_ := by (have z := e1_.trans e2_.symm; injection z with z; injection z)
          show X k w _ 1072 [some (.ref b), some (.ref (wA w (x))), some (.ref (wA w (m))), some (.int (nI (i3)))] [.long (y2_), .long (y1_)] H237 G238
          refine X_lcmp C (dtL_14 (1072, .lcmp, 1) (mg 8 rfl)) ?_
          refine X_if_eq (tgt := 1078) C (dtL_14 (1073, .ifCond .eq 5, 3) (mg 9 rfl)) (by decide) (fun q240 => ?_) (fun q240 => ?_)
          · skip
            refine X_iinc (v := nI (i3 + 5)) (ls' := [some (.ref b), some (.ref (wA w (x))), some (.ref (wA w (m))), some (.int (nI (i3 + 5)))]) C (dtL_14 (1078, .iinc 3 5, 3) (mg 12 rfl)) rfl (nI_add (i3) 5) rfl ?_
            refine X_goto (tgt := 18) C (dtL_14 (1081, .goto (-1063), 3) (mg 13 rfl)) (by decide) ?_
            refine X_eq (ls' := [some (.ref b), some (.ref (wA w (x))), some (.ref (wA w (m))), some (.int (nI (i3 + 5)))]) (st' := []) (h' := H237) (g' := G238) rfl rfl rfl rfl ?_
            exact ih18 (i3 + 5) (H237) (G238) (by omega) (Or.inr (by omega)) (by omega)
          · skip
            exact absurd (lgc_e heq_) q240
        · refine X_swOut (tgt := 1078) C (dtL_0 (32, .tableswitch 1046 0 33 #[152, 185, 208, 241, 264, 277, 290, 323, 346, 369, 392, 405, 438, 471, 504, 527, 560, 593, 646, 669, 692, 735, 758, 771, 784, 817, 850, 883, 916, 940, 963, 986, 1009, 1032], 152) (mg 21 rfl)) q2 (by decide) ?_
          refine X_iinc (v := nI (i3 + 5)) (ls' := [some (.ref b), some (.ref (wA w (x))), some (.ref (wA w (m))), some (.int (nI (i3 + 5)))]) C (dtL_14 (1078, .iinc 3 5, 3) (mg 12 rfl)) rfl (nI_add (i3) 5) rfl ?_
          refine X_goto (tgt := 18) C (dtL_14 (1081, .goto (-1063), 3) (mg 13 rfl)) (by decide) ?_
          refine X_eq (ls' := [some (.ref b), some (.ref (wA w (x))), some (.ref (wA w (m))), some (.int (nI (i3 + 5)))]) (st' := []) (h' := hp18) (g' := gp18) rfl rfl rfl rfl ?_
          exact ih18 (i3 + 5) (hp18) (gp18) (by omega) (Or.inr (by omega)) (by omega)
  refine X_eq (ls' := [some (.ref b), some (.ref (wA w (x))), some (.ref (wA w (m))), some (.int (nI (0)))]) (st' := []) (h' := h) (g' := g) rfl rfl rfl rfl ?_
  exact lp18 _ (0) (h) (g) (by omega) (Or.inl ⟨rfl, hJ0, hCF0, hMF0, hGF0⟩) (Nat.le_refl _)
