/-! THE REFERENCE, 11: weak ends; when, three, tell, ask, sparrow, frost, years, digest -/
/-- what calls that keep KIND, STONY, SEEN, MARKS, TEXT and IMAGES may change -/
def SM (m q i : Nat) : Prop := (q = m + 1 ∧ ((2 ≤ i ∧ i ≤ 29) ∨ 94 ≤ i)) ∨ (m + 4 ≤ q ∧ q ≤ m + 8)
def rU (h : xI) (q o : Nat) : Prop := (∃ n, n ≤ 8 ∧ h q (o + 2) = nI n) ∧ (∃ c, c < 25 ∧ h q (o + 28) = nI c) ∧ ∀ r, r < 8 → ∃ c, c < 25 ∧ h q (o + (94 + 27 * r + 25)) = nI c
def rS (h : xI) (q o : Nat) : Prop := (∃ n, n ≤ 5 ∧ h q (o + 0) = nI n) ∧ ∃ n, n ≤ 6 ∧ h q (o + 1) = nI n
def mW (m : Nat) (h h' : xI) : Prop := (∀ q i, ¬ SM m q i → h' q i = h q i) ∧ rU h' (m + 1) 0
def mOk (h : xI) (m : Nat) : Prop := rU h (m + 1) 0 ∧ rS h (m + 1) 0 ∧ (∀ i, i < 2 → rU h (m + 2) (310 * i) ∧ rS h (m + 2) (310 * i)) ∧ ∃ n, n ≤ 150 ∧ h m 11 = nI n
theorem rU_c {h h' : xI} {q p o o' : Nat} (e : ∀ i, i < 310 → h' p (o' + i) = h q (o + i)) (H : rU h q o) : rU h' p o' := by
  obtain ⟨⟨n, hn, e1⟩, ⟨c, hc, e2⟩, e3⟩ := H
  refine ⟨⟨n, hn, by rw [e _ (by omega)]; exact e1⟩, ⟨c, hc, by rw [e _ (by omega)]; exact e2⟩, fun r hr => ?_⟩
  obtain ⟨c', hc', e4⟩ := e3 r hr
  exact ⟨c', hc', by rw [e _ (by omega)]; exact e4⟩
theorem rS_c {h h' : xI} {q p o o' : Nat} (e : ∀ i, i < 2 → h' p (o' + i) = h q (o + i)) (H : rS h q o) : rS h' p o' := by
  obtain ⟨⟨n, hn, e1⟩, ⟨c, hc, e2⟩⟩ := H
  exact ⟨⟨n, hn, by rw [e _ (by omega)]; exact e1⟩, ⟨c, hc, by rw [e _ (by omega)]; exact e2⟩⟩
theorem rU_k {h h' : xI} {q o : Nat} (e : ∀ i, h' q i = h q i) (H : rU h q o) : rU h' q o := rU_c (fun i _ => e _) H
theorem mW_r {m : Nat} {h : xI} (hI : mOk h m) : mW m h h := ⟨fun _ _ _ => rfl, hI.1⟩
theorem mW_t {m : Nat} {h h1 h2 : xI} (a : mW m h h1) (b : mW m h1 h2) : mW m h h2 := ⟨fun q i z => (b.1 q i z).trans (a.1 q i z), b.2⟩
theorem mOk_w {m : Nat} {h h' : xI} (hI : mOk h m) (a : mW m h h') : mOk h' m := by
  obtain ⟨a1, a2⟩ := a
  obtain ⟨-, b2, b3, ⟨n, hn, e⟩⟩ := hI
  refine ⟨a2, rS_c (fun i hi => a1 _ _ (by unfold SM; omega)) b2, fun i hi => ⟨rU_c (fun j hj => a1 _ _ (by unfold SM; omega)) (b3 i hi).1, rS_c (fun j hj => a1 _ _ (by unfold SM; omega)) (b3 i hi).2⟩, ⟨n, hn, ?_⟩⟩
  rw [a1 _ _ (by unfold SM; omega)]; exact e
theorem haH_ne (h : xI) (m : Nat) {q i : Nat} (hn : q ≠ m + 5) : haH h m q i = h q i := cpS_ne _ _ _ _ _ _ (fun z => hn z.1)
theorem haH_at (h : xI) (m : Nat) {i : Nat} (hi : i < 56) : haH h m (m + 5) i = h (m + 1) i := by
  unfold haH; rw [cpS_at _ _ _ _ _ _ ⟨rfl, by omega, by omega⟩]; congr 1
theorem wkH_ne (h : xI) (Q : Nat) {q i : Nat} (hn : q ≠ Q ∨ ((i < 3 ∨ 28 ≤ i) ∧ i ≠ 29)) : wkH h Q q i = h q i := by
  unfold wkH
  rw [u2_ne _ _ _ _ (by omega), mp_ne _ _ _ _ _ (by omega)]
theorem wkN_ne (Q : Nat) {q i : Nat} (hn : q ≠ Q ∨ ((i < 3 ∨ 28 ≤ i) ∧ i ≠ 29)) : ∀ (n : Nat) (h : xI), wkN Q n h q i = h q i
  | 0, h => rfl
  | n + 1, h => by
    show wkN Q n (wkH h Q) q i = _
    rw [wkN_ne Q hn n, wkH_ne h Q hn]
theorem stH_ne (h : xI) (Q c : Nat) {q i : Nat} (hn : ¬ (q = Q ∧ (i = 28 ∨ i = 3 + c))) : stH h Q c q i = h q i := by
  unfold stH
  split
  · rw [u2_ne _ _ _ _ (by omega)]
  · rw [u2_ne _ _ _ _ (by omega), u2_ne _ _ _ _ (by omega)]
theorem rfH_ne (h : xI) (m s : Nat) {q i : Nat} (hn : q ≠ m + 4) : rfH h m s q i = h q i := u2_ne _ _ _ _ (fun z => hn z.1)
theorem bsA_4 : ∀ j, j < 25 → bsA j (nI 4) = nI j := by decide +kernel
theorem bsA_alt {j : Nat} (hj : j < 25) (t : Int32) : bsA j t = (-1 : Int32) ∨ ∃ c, c < 25 ∧ bsA j t = nI c := by
  have H : ∀ i, i < 4 → bsA j (nI i) = (-1 : Int32) ∨ ∃ c, c < 25 ∧ bsA j (nI i) = nI c := by
    intro i hi
    rw [bs_all j hj i hi]
    by_cases q : bsN j i < 25
    · rw [if_pos q]; exact Or.inr ⟨_, q, rfl⟩
    · rw [if_neg q]; exact Or.inl rfl
  by_cases h0 : t = 0
  · rw [h0]; exact H 0 (by omega)
  · by_cases h1 : t = nI 1
    · rw [h1]; exact H 1 (by omega)
    · by_cases h2 : t = nI 2
      · rw [h2]; exact H 2 (by omega)
      · by_cases h3 : t = nI 3
        · rw [h3]; exact H 3 (by omega)
        · have e : bsA j t = bsA j (nI 4) := by
            have e1 : dR t = dR (nI 4) := by
              unfold dR; rw [if_neg h0, if_neg h2, if_neg (by decide), if_neg (by decide)]
            have e2 : dC t = dC (nI 4) := by
              unfold dC; rw [if_neg h1, if_neg h3, if_neg (by decide), if_neg (by decide)]
            unfold bsA; rw [e1, e2]
          rw [e, bsA_4 j hj]; exact Or.inr ⟨j, hj, rfl⟩
set_option maxHeartbeats 4000000 in
set_option maxRecDepth 100000 in
theorem ct_X8_when {l : Launch} {w : Kw} (hw : wOk w) {m : Nat} (hM : shM w m) (a1 : Int32) (a2 : Int32) (h : xI) (g : xJ) (hI : mOk h m) : Ct l w yX8_when cX8_when 4 (some .int) 2 46 [.ref (wA w (m)), .int (a1), .int (a2)] h g (pQ (mW m h)) := by
  refine Ct_of (ls := [some (.ref (wA w (m))), some (.int (a1)), some (.int (a2)), none]) (by decide) hw (Nat.le_of_ble_eq_true rfl) rfl (fun k hkl C => ?_)
  have C : Cx k w cX8_when RX8 4 (some .int) 2 46 := C
  have D := dtX8_when
  subst hkl
  have hM0 := hM
  obtain ⟨hm, hsm, hs1, hs2, hs3, hs4, hs5, hs6, hs7, hs8, hs9, hs10, hs11⟩ := hM
  have hM := hM0
  have hI0 := hI
  obtain ⟨⟨⟨nu, hnu, eu⟩, ⟨c0, hc0, hat⟩, hpl⟩, ⟨⟨ns, hns, hse⟩, ⟨nm, hnm, hma⟩⟩, hK, ⟨nt, hnt, htx⟩⟩ := hI
  have hI := hI0
  refine X_iload_n C 1 (D (0, .iload_n 1, 1) (mg 0 rfl)) rfl rfl ?_
  refine X_cS (As := [.int (a1)]) (st := []) C (post := _) (ct_X8_isCell hw (a1) h g) kX8_72 (by decide) (by decide) rfl rfl (Nat.le_of_ble_eq_true rfl) (D (1, .invokestatic 72, 3) (mg 1 rfl)) rfl (fun v3 H1 G2 hv3 => ?_)
  obtain ⟨rfl, rfl, rfl⟩ := hv3
  show X k w _ 4 [some (.ref (wA w (m))), some (.int (a1)), some (.int (a2)), none] [.int (if 0 ≤ (a1).toInt ∧ (a1).toInt < 25 then 1 else 0)] h g
  refine X_if_eq (tgt := 19) C (D (4, .ifCond .eq 15, 3) (mg 2 rfl)) (by decide) (fun q4 => ?_) (fun q4 => ?_)
  · skip
    have q4 : ¬ (0 ≤ (a1).toInt ∧ (a1).toInt < 25) := bz0.mp q4
    refine X_aload_n C 0 (D (19, .aload_n 0, 1) (mg 9 rfl)) rfl rfl ?_
    refine X_bipush (v := (-2 : Int32)) C (D (20, .bipush (-2), 2) (mg 10 rfl)) (by decide) ?_
    refine X_cV (As := [.int ((-2 : Int32))]) (st := []) C (post := _) (m) (by omega) hsm rfl (ct_X8_bad hw hM ((-2 : Int32)) h g) kX8_75 (by decide) (by decide) rfl rfl (Nat.le_of_ble_eq_true rfl) (D (22, .invokevirtual 75, 3) (mg 11 rfl)) rfl (fun v7 H5 G6 hv7 => ?_)
    obtain ⟨rfl, rfl, rfl⟩ := hv7
    show X k w _ 25 [some (.ref (wA w (m))), some (.int (a1)), some (.int (a2)), none] [.int ((-2 : Int32))] (rfH h m 0) g
    exact X_iret C (D (25, .ireturn, 1) (mg 12 rfl)) ⟨⟨_, rfl⟩, ⟨fun q i z0 => by have z := z0; unfold SM at z; rw [rfH_ne _ _ _ (by omega)], rU_k (fun i => by rw [rfH_ne _ _ _ (by omega)]) hI.1⟩⟩
  · skip
    have q4 : (0 ≤ (a1).toInt ∧ (a1).toInt < 25) := bz1.mp q4
    obtain ⟨n8, hn8, rfl⟩ := nI_i (x := a1) (n := 25) q4.1 (by omega)
    refine X_iload_n C 2 (D (7, .iload_n 2, 1) (mg 3 rfl)) rfl rfl ?_
    refine X_i2l C (D (8, .i2l, 1) (mg 4 rfl)) ?_
    refine X_lconst (v := lN 1) C (D (9, .lconst 1, 1) (mg 5 rfl)) (by decide) ?_
    refine X_ldc2 C (D (10, .ldc2_w 156, 3) (mg 6 rfl)) vX8_156 ?_
    refine X_tl (y := lN (20)) rfl ?_
    refine X_cS (As := [.long ((a2).toInt64), .long (lN (1)), .long (lN (20))]) (st := []) C (post := _) (ct_X8_in hw ((a2).toInt64) (lN (1)) (lN (20)) h g) kX8_54 (by decide) (by decide) rfl rfl (Nat.le_of_ble_eq_true rfl) (D (13, .invokestatic 54, 3) (mg 7 rfl)) rfl (fun v11 H9 G10 hv11 => ?_)
    obtain ⟨rfl, rfl, rfl⟩ := hv11
    show X k w _ 16 [some (.ref (wA w (m))), some (.int (nI (n8))), some (.int (a2)), none] [.int (if (lN (1)).toInt ≤ ((a2).toInt64).toInt ∧ ((a2).toInt64).toInt ≤ (lN (20)).toInt then 1 else 0)] h g
    refine X_if_ne (tgt := 26) C (D (16, .ifCond .ne 10, 3) (mg 8 rfl)) (by decide) (fun q12 => ?_) (fun q12 => ?_)
    · skip
      have q12 : ((lN (1)).toInt ≤ ((a2).toInt64).toInt ∧ ((a2).toInt64).toInt ≤ (lN (20)).toInt) := bz1.mp q12
      simp only [i6, pk_lT (n := 1) (by omega), pk_lT (n := 20) (by omega)] at q12
      refine X_aload_n C 0 (D (26, .aload_n 0, 1) (mg 13 rfl)) rfl rfl ?_
      refine X_cV (As := []) (st := []) C (post := _) (m) (by omega) hsm rfl (ct_X8_layHand hw hM h g) kX8_149 (by decide) (by decide) rfl rfl (Nat.le_of_ble_eq_true rfl) (D (27, .invokevirtual 149, 3) (mg 14 rfl)) rfl (fun v15 H13 G14 hv15 => ?_)
      obtain ⟨rfl, rfl, rfl⟩ := hv15
      show X k w _ 30 [some (.ref (wA w (m))), some (.int (nI (n8))), some (.int (a2)), none] [] (haH h m) g
      refine X_iconst (v := nI (0)) C (D (30, .iconst 0, 1) (mg 15 rfl)) (by decide) ?_
      refine X_istore_n (ls' := [some (.ref (wA w (m))), some (.int (nI (n8))), some (.int (a2)), some (.int (nI (0)))]) C 3 (D (31, .istore_n 3, 1) (mg 16 rfl)) rfl (Nat.le_of_ble_eq_true rfl) rfl ?_
      have lp32 : ∀ (nn32 : Nat) (j : Nat) (hp32 : xI) (gp32 : xJ), (j ≤ 61) → (mW m h hp32) → 62 - j ≤ nn32 → X k w (Zq k w (pQ (mW m h))) 32 [some (.ref (wA w (m))), some (.int (nI (n8))), some (.int (a2)), some (.int (nI (j)))] [] hp32 gp32 := by
        intro nn32
        induction nn32 with
        | zero => intro j hp32 gp32 hc32_0 hc32_1 hz; exact absurd hz (by omega)
        | succ nn32 ih32 =>
          intro j hp32 gp32 hc32_0 hc32_1 hz32
          obtain ⟨⟨u16, hu16, eu16⟩, ⟨c17, hc17, ec17⟩, -⟩ := (hc32_1).2
          refine X_iload_n C 3 (D (32, .iload_n 3, 1) (mg 17 rfl)) rfl rfl ?_
          refine X_bipush (v := nI (60)) C (D (33, .bipush 60, 2) (mg 18 rfl)) (by decide) ?_
          refine X_icmp_gt (tgt := 65) C (D (35, .if_icmp .gt 30, 3) (mg 19 rfl)) (by decide) (fun q18 => ?_) (fun q18 => ?_)
          · skip
            have q18 : (j) > (60) := by have z := (nI_ltI (a := (60)) (b := (j)) (by omega) (by omega)).mp q18; omega
            refine X_iconst (v := (-1 : Int32)) C (D (65, .iconst (-1), 1) (mg 33 rfl)) (by decide) ?_
            exact X_iret C (D (66, .ireturn, 1) (mg 34 rfl)) ⟨⟨_, rfl⟩, hc32_1⟩
          · skip
            have q18 : (j) ≤ (60) := by have z : ¬ ((60) < (j)) := fun u => q18 ((nI_ltI (a := (60)) (b := (j)) (by omega) (by omega)).mpr u); omega
            refine X_aload_n C 0 (D (38, .aload_n 0, 1) (mg 20 rfl)) rfl rfl ?_
            refine X_get (v := .ref (wA w (m + 5))) C (m) 6 (by omega) hsm rfl rfl (by decide) inX8 fX8_27 rfl (D (39, .getfield 27, 3) (mg 21 rfl)) rfl ?_
            refine X_iload_n C 1 (D (42, .iload_n 1, 1) (mg 22 rfl)) rfl rfl ?_
            refine X_cS (As := [.ref (wA w (m + 5)), .int (nI (n8))]) (st := []) C (post := _) (ct_X8_highOf hw (⟨by omega, hs5, by omega, by omega⟩ : rw56 w (m + 5) 56) (by omega) hp32 gp32) kX8_107 (by decide) (by decide) rfl rfl (Nat.le_of_ble_eq_true rfl) (D (43, .invokestatic 107, 3) (mg 23 rfl)) rfl (fun v21 H19 G20 hv21 => ?_)
            obtain ⟨rfl, rfl, rfl⟩ := hv21
            show X k w _ 46 [some (.ref (wA w (m))), some (.int (nI (n8))), some (.int (a2)), some (.int (nI (j)))] [.int (hiV (hp32 (m + 5) (3 + (n8))))] hp32 gp32
            refine X_iload_n C 2 (D (46, .iload_n 2, 1) (mg 24 rfl)) rfl rfl ?_
            refine X_icmp_lt (tgt := 52) C (D (47, .if_icmp .lt 5, 3) (mg 25 rfl)) (by decide) (fun q22 => ?_) (fun q22 => ?_)
            · skip
              refine X_aload_n C 0 (D (52, .aload_n 0, 1) (mg 28 rfl)) rfl rfl ?_
              refine X_get (v := .ref (wA w (m + 5))) C (m) 6 (by omega) hsm rfl rfl (by decide) inX8 fX8_27 rfl (D (53, .getfield 27, 3) (mg 29 rfl)) rfl ?_
              refine X_cS (As := [.ref (wA w (m + 5))]) (st := []) C (post := _) (ct_X8_goWeek hw (⟨by omega, hs5, by omega, by omega⟩ : rw56 w (m + 5) 56) hp32 gp32) kX8_121 (by decide) (by decide) rfl rfl (Nat.le_of_ble_eq_true rfl) (D (56, .invokestatic 121, 3) (mg 30 rfl)) rfl (fun v25 H23 G24 hv25 => ?_)
              obtain ⟨rfl, rfl, rfl⟩ := hv25
              show X k w _ 59 [some (.ref (wA w (m))), some (.int (nI (n8))), some (.int (a2)), some (.int (nI (j)))] [] (wkH hp32 (m + 5)) gp32
              refine X_iinc (v := nI (j + 1)) (ls' := [some (.ref (wA w (m))), some (.int (nI (n8))), some (.int (a2)), some (.int (nI (j + 1)))]) C (D (59, .iinc 3 1, 3) (mg 31 rfl)) rfl (nI_add (j) 1) rfl ?_
              refine X_goto (tgt := 32) C (D (62, .goto (-30), 3) (mg 32 rfl)) (by decide) ?_
              refine X_eq (ls' := [some (.ref (wA w (m))), some (.int (nI (n8))), some (.int (a2)), some (.int (nI (j + 1)))]) (st' := []) (h' := (wkH hp32 (m + 5))) (g' := gp32) rfl rfl rfl rfl ?_
              exact ih32 (j + 1) ((wkH hp32 (m + 5))) (gp32) (by omega) ⟨fun q i z0 => by have z := z0; unfold SM at z; rw [wkH_ne _ _ (by omega)]; exact (hc32_1).1 q i z0, rU_k (fun i => by rw [wkH_ne _ _ (by omega)]) (hc32_1).2⟩ (by omega)
            · skip
              refine X_iload_n C 3 (D (50, .iload_n 3, 1) (mg 26 rfl)) rfl rfl ?_
              exact X_iret C (D (51, .ireturn, 1) (mg 27 rfl)) ⟨⟨_, rfl⟩, hc32_1⟩
      refine X_eq (ls' := [some (.ref (wA w (m))), some (.int (nI (n8))), some (.int (a2)), some (.int (nI (0)))]) (st' := []) (h' := (haH h m)) (g' := g) rfl rfl rfl rfl ?_
      exact lp32 _ (0) ((haH h m)) (g) (by omega) ⟨fun q i z0 => by have z := z0; unfold SM at z; rw [haH_ne _ _ (by omega)], rU_k (fun i => by rw [haH_ne _ _ (by omega)]) hI.1⟩ (Nat.le_refl _)
    · skip
      have q12 : ¬ ((lN (1)).toInt ≤ ((a2).toInt64).toInt ∧ ((a2).toInt64).toInt ≤ (lN (20)).toInt) := bz0.mp q12
      simp only [i6, pk_lT (n := 1) (by omega), pk_lT (n := 20) (by omega)] at q12
      refine X_aload_n C 0 (D (19, .aload_n 0, 1) (mg 9 rfl)) rfl rfl ?_
      refine X_bipush (v := (-2 : Int32)) C (D (20, .bipush (-2), 2) (mg 10 rfl)) (by decide) ?_
      refine X_cV (As := [.int ((-2 : Int32))]) (st := []) C (post := _) (m) (by omega) hsm rfl (ct_X8_bad hw hM ((-2 : Int32)) h g) kX8_75 (by decide) (by decide) rfl rfl (Nat.le_of_ble_eq_true rfl) (D (22, .invokevirtual 75, 3) (mg 11 rfl)) rfl (fun v28 H26 G27 hv28 => ?_)
      obtain ⟨rfl, rfl, rfl⟩ := hv28
      show X k w _ 25 [some (.ref (wA w (m))), some (.int (nI (n8))), some (.int (a2)), none] [.int ((-2 : Int32))] (rfH h m 0) g
      exact X_iret C (D (25, .ireturn, 1) (mg 12 rfl)) ⟨⟨_, rfl⟩, ⟨fun q i z0 => by have z := z0; unfold SM at z; rw [rfH_ne _ _ _ (by omega)], rU_k (fun i => by rw [rfH_ne _ _ _ (by omega)]) hI.1⟩⟩
set_option maxHeartbeats 4000000 in
set_option maxRecDepth 100000 in
theorem ct_X8_greenBy {l : Launch} {w : Kw} (hw : wOk w) {m : Nat} (hM : shM w m) {a1 : Nat} (ha1 : a1 < 64) {a2 : Nat} (ha2 : a2 ≤ 60) (h : xI) (g : xJ) (hI : mOk h m) : Ct l w yX8_greenBy cX8_greenBy 5 (some .int) 4 91 [.ref (wA w (m)), .int (nI (a1)), .int (nI (a2))] h g (pQ (mW m h)) := by
  refine Ct_of (ls := [some (.ref (wA w (m))), some (.int (nI (a1))), some (.int (nI (a2))), none, none]) (by decide) hw (Nat.le_of_ble_eq_true rfl) rfl (fun k hkl C => ?_)
  have C : Cx k w cX8_greenBy RX8 5 (some .int) 4 91 := C
  have D := dtX8_greenBy
  subst hkl
  have hM0 := hM
  obtain ⟨hm, hsm, hs1, hs2, hs3, hs4, hs5, hs6, hs7, hs8, hs9, hs10, hs11⟩ := hM
  have hM := hM0
  have hI0 := hI
  obtain ⟨⟨⟨nu, hnu, eu⟩, ⟨c0, hc0, hat⟩, hpl⟩, ⟨⟨ns, hns, hse⟩, ⟨nm, hnm, hma⟩⟩, hK, ⟨nt, hnt, htx⟩⟩ := hI
  have hI := hI0
  refine X_aload_n C 0 (D (0, .aload_n 0, 1) (mg 0 rfl)) rfl rfl ?_
  refine X_cV (As := []) (st := []) C (post := _) (m) (by omega) hsm rfl (ct_X8_layHand hw hM h g) kX8_149 (by decide) (by decide) rfl rfl (Nat.le_of_ble_eq_true rfl) (D (1, .invokevirtual 149, 3) (mg 1 rfl)) rfl (fun v3 H1 G2 hv3 => ?_)
  obtain ⟨rfl, rfl, rfl⟩ := hv3
  show X k w _ 4 [some (.ref (wA w (m))), some (.int (nI (a1))), some (.int (nI (a2))), none, none] [] (haH h m) g
  refine X_iconst (v := nI (0)) C (D (4, .iconst 0, 1) (mg 2 rfl)) (by decide) ?_
  refine X_istore_n (ls' := [some (.ref (wA w (m))), some (.int (nI (a1))), some (.int (nI (a2))), some (.int (nI (0))), none]) C 3 (D (5, .istore_n 3, 1) (mg 3 rfl)) rfl (Nat.le_of_ble_eq_true rfl) rfl ?_
  have lp6 : ∀ (nn6 : Nat) (c9 : Nat) (j : Nat) (hp6 : xI) (gp6 : xJ), (j ≤ 3) → (c9 < 25) → (hp6 (m + 5) 28 = nI c9) → (mW m h hp6) → 4 - j ≤ nn6 → X k w (Zq k w (pQ (mW m h))) 6 [some (.ref (wA w (m))), some (.int (nI (a1))), some (.int (nI (a2))), some (.int (nI (j))), none] [] hp6 gp6 := by
    intro nn6
    induction nn6 with
    | zero => intro c9 j hp6 gp6 hc6_0 hc6_1 hc6_2 hc6_3 hz; exact absurd hz (by omega)
    | succ nn6 ih6 =>
      intro c9 j hp6 gp6 hc6_0 hc6_1 hc6_2 hc6_3 hz6
      obtain ⟨⟨u4, hu4, eu4⟩, ⟨c5, hc5, ec5⟩, -⟩ := (hc6_3).2
      refine X_iload_n C 3 (D (6, .iload_n 3, 1) (mg 4 rfl)) rfl rfl ?_
      refine X_iconst (v := nI (3)) C (D (7, .iconst 3, 1) (mg 5 rfl)) (by decide) ?_
      refine X_icmp_ge (tgt := 73) C (D (8, .if_icmp .ge 65, 3) (mg 6 rfl)) (by decide) (fun q6 => ?_) (fun q6 => ?_)
      · skip
        have q6 : (j) ≥ (3) := by have z := (nI_leI (a := (3)) (b := (j)) (by omega) (by omega)).mp q6; omega
        refine X_aload_n C 0 (D (73, .aload_n 0, 1) (mg 42 rfl)) rfl rfl ?_
        refine X_iload_n C 2 (D (74, .iload_n 2, 1) (mg 43 rfl)) rfl rfl ?_
        refine X_cV (As := [.int (nI (a2))]) (st := []) C (post := _) (m) (by omega) hsm rfl (ct_X8_goAhead hw hM (by omega) hp6 gp6) kX8_152 (by decide) (by decide) rfl rfl (Nat.le_of_ble_eq_true rfl) (D (75, .invokevirtual 152, 3) (mg 44 rfl)) rfl (fun v9 H7 G8 hv9 => ?_)
        obtain ⟨rfl, rfl, rfl⟩ := hv9
        show X k w _ 78 [some (.ref (wA w (m))), some (.int (nI (a1))), some (.int (nI (a2))), some (.int (nI (j))), none] [] (wkN (m + 5) (a2) hp6) gp6
        refine X_aload_n C 0 (D (78, .aload_n 0, 1) (mg 45 rfl)) rfl rfl ?_
        refine X_get (v := .ref (wA w (m + 5))) C (m) 6 (by omega) hsm rfl rfl (by decide) inX8 fX8_27 rfl (D (79, .getfield 27, 3) (mg 46 rfl)) rfl ?_
        refine X_iconst (v := nI (1)) C (D (82, .iconst 1, 1) (mg 47 rfl)) (by decide) ?_
        refine X_cS (As := [.ref (wA w (m + 5)), .int (nI (1))]) (st := []) C (post := _) (ct_X8_manyAtLeast hw (⟨by omega, hs5, by omega, by omega⟩ : rw56 w (m + 5) 56) (nI (1)) (wkN (m + 5) (a2) hp6) gp6) kX8_143 (by decide) (by decide) rfl rfl (Nat.le_of_ble_eq_true rfl) (D (83, .invokestatic 143, 3) (mg 48 rfl)) rfl (fun v12 H10 G11 hv12 => ?_)
        obtain ⟨rfl, rfl, rfl⟩ := hv12
        show X k w _ 86 [some (.ref (wA w (m))), some (.int (nI (a1))), some (.int (nI (a2))), some (.int (nI (j))), none] [.int (nI (cn (fun c => ¬ hiV ((wkN (m + 5) (a2) hp6) (m + 5) (3 + c)) < nI (1)) 25))] (wkN (m + 5) (a2) hp6) gp6
        exact X_iret C (D (86, .ireturn, 1) (mg 49 rfl)) ⟨⟨_, rfl⟩, ⟨fun q i z0 => by have z := z0; unfold SM at z; rw [wkN_ne _ (by omega)]; exact (hc6_3).1 q i z0, rU_k (fun i => by rw [wkN_ne _ (by omega)]) (hc6_3).2⟩⟩
      · skip
        have q6 : (j) < (3) := by have z : ¬ ((3) ≤ (j)) := fun u => q6 ((nI_leI (a := (3)) (b := (j)) (by omega) (by omega)).mpr u); omega
        refine X_iload_n C 3 (D (11, .iload_n 3, 1) (mg 7 rfl)) rfl rfl ?_
        refine X_if_ne (tgt := 22) C (D (12, .ifCond .ne 10, 3) (mg 8 rfl)) (by decide) (fun q13 => ?_) (fun q13 => ?_)
        · skip
          have q13 : (j) ≠ (0) := by have z : ¬ ((j) = (0)) := fun u => q13 ((nI_eq (a := (j)) (b := (0)) (by omega) (by omega)).mpr u); omega
          refine X_iload_n C 3 (D (22, .iload_n 3, 1) (mg 13 rfl)) rfl rfl ?_
          refine X_iconst (v := nI (1)) C (D (23, .iconst 1, 1) (mg 14 rfl)) (by decide) ?_
          refine X_icmp_ne (tgt := 35) C (D (24, .if_icmp .ne 11, 3) (mg 15 rfl)) (by decide) (fun q14 => ?_) (fun q14 => ?_)
          · skip
            have q14 : (j) ≠ (1) := by have z : ¬ ((j) = (1)) := fun u => q14 ((nI_eq (a := (j)) (b := (1)) (by omega) (by omega)).mpr u); omega
            refine X_iload_n C 1 (D (35, .iload_n 1, 1) (mg 22 rfl)) rfl rfl ?_
            refine X_iconst (v := nI (4)) C (D (36, .iconst 4, 1) (mg 23 rfl)) (by decide) ?_
            refine X_irem C (D (37, .irem, 1) (mg 24 rfl)) (by decide) ?_
            refine X_ti (y := nI ((a1) % (4))) (pk_rem (by omega) (by omega) (by omega)) ?_
            refine X_istore (ls' := [some (.ref (wA w (m))), some (.int (nI (a1))), some (.int (nI (a2))), some (.int (nI (j))), some (.int (nI ((a1) % (4))))]) C (D (38, .istore 4, 2) (mg 25 rfl)) (Nat.le_of_ble_eq_true rfl) rfl ?_
            refine X_aload_n C 0 (D (40, .aload_n 0, 1) (mg 26 rfl)) rfl rfl ?_
            refine X_get (v := .ref (wA w (m + 5))) C (m) 6 (by omega) hsm rfl rfl (by decide) inX8 fX8_27 rfl (D (41, .getfield 27, 3) (mg 27 rfl)) rfl ?_
            refine X_bipush (v := nI (28)) C (D (44, .bipush 28, 2) (mg 28 rfl)) (by decide) ?_
            refine X_iald (v := hp6 (m + 5) (28)) C (m + 5) (by omega) hs5 (vp_in_nI (by omega) (by omega)) (D (46, .iaload, 1) (mg 29 rfl)) (by rw [nI_clamp (by omega)]) ?_
            refine X_ti (y := nI (c9)) (hc6_2) ?_
            refine X_iload C (D (47, .iload 4, 2) (mg 30 rfl)) rfl ?_
            refine X_cS (As := [.int (nI (c9)), .int (nI ((a1) % (4)))]) (st := []) C (post := _) (ct_X8_beside hw (j := c9) (by omega) (nI ((a1) % (4))) hp6 gp6) kX8_110 (by decide) (by decide) rfl rfl (Nat.le_of_ble_eq_true rfl) (D (49, .invokestatic 110, 3) (mg 31 rfl)) rfl (fun v17 H15 G16 hv17 => ?_)
            obtain ⟨rfl, rfl, rfl⟩ := hv17
            obtain ⟨y18, ey18⟩ : ∃ y, y = bsA (c9) (nI ((a1) % (4))) := ⟨_, rfl⟩
            have hy18 := bsA_alt (j := c9) (by omega) (nI ((a1) % (4)))
            rw [← ey18] at hy18
            rw [← ey18]
            show X k w _ 52 [some (.ref (wA w (m))), some (.int (nI (a1))), some (.int (nI (a2))), some (.int (nI (j))), some (.int (nI ((a1) % (4))))] [.int (y18)] hp6 gp6
            refine X_iconst (v := (-1 : Int32)) C (D (52, .iconst (-1), 1) (mg 32 rfl)) (by decide) ?_
            refine X_icmp_ne (tgt := 58) C (D (53, .if_icmp .ne 5, 3) (mg 33 rfl)) (by decide) (fun q19 => ?_) (fun q19 => ?_)
            · skip
              obtain ⟨c20, hc20, rfl⟩ := hy18.resolve_left q19
              refine X_aload_n C 0 (D (58, .aload_n 0, 1) (mg 36 rfl)) rfl rfl ?_
              refine X_get (v := .ref (wA w (m + 5))) C (m) 6 (by omega) hsm rfl rfl (by decide) inX8 fX8_27 rfl (D (59, .getfield 27, 3) (mg 37 rfl)) rfl ?_
              refine X_iload C (D (62, .iload 4, 2) (mg 38 rfl)) rfl ?_
              refine X_cS (As := [.ref (wA w (m + 5)), .int (nI ((a1) % (4)))]) (st := []) C (post := _) (ct_X8_goStep hw (⟨by omega, hs5, by omega, by omega⟩ : rw56 w (m + 5) 56) (j := c9) (c := c20) (by omega) (by omega) (nI ((a1) % (4))) hp6 gp6 (hc6_2) ey18.symm) kX8_134 (by decide) (by decide) rfl rfl (Nat.le_of_ble_eq_true rfl) (D (64, .invokestatic 134, 3) (mg 39 rfl)) rfl (fun v23 H21 G22 hv23 => ?_)
              obtain ⟨rfl, rfl, rfl⟩ := hv23
              show X k w _ 67 [some (.ref (wA w (m))), some (.int (nI (a1))), some (.int (nI (a2))), some (.int (nI (j))), some (.int (nI ((a1) % (4))))] [] (stH hp6 (m + 5) (c20)) gp6
              refine X_iinc (v := nI (j + 1)) (ls' := [some (.ref (wA w (m))), some (.int (nI (a1))), some (.int (nI (a2))), some (.int (nI (j + 1))), some (.int (nI ((a1) % (4))))]) C (D (67, .iinc 3 1, 3) (mg 40 rfl)) rfl (nI_add (j) 1) rfl ?_
              refine X_goto (tgt := 6) C (D (70, .goto (-64), 3) (mg 41 rfl)) (by decide) ?_
              refine X_los (ls' := [some (.ref (wA w (m))), some (.int (nI (a1))), some (.int (nI (a2))), some (.int (nI (j + 1))), none]) (by simp [lsub]) ?_
              refine X_eq (ls' := [some (.ref (wA w (m))), some (.int (nI (a1))), some (.int (nI (a2))), some (.int (nI (j + 1))), none]) (st' := []) (h' := (stH hp6 (m + 5) (c20))) (g' := gp6) rfl rfl rfl rfl ?_
              exact ih6 (c20) (j + 1) ((stH hp6 (m + 5) (c20))) (gp6) (by omega) (by omega) ((st_28 _ _ _ (by omega))) ⟨fun q i z0 => by have z := z0; unfold SM at z; rw [stH_ne _ _ _ (by omega)]; exact (hc6_3).1 q i z0, rU_k (fun i => by rw [stH_ne _ _ _ (by omega)]) (hc6_3).2⟩ (by omega)
            · skip
              subst q19
              refine X_iconst (v := (-1 : Int32)) C (D (56, .iconst (-1), 1) (mg 34 rfl)) (by decide) ?_
              exact X_iret C (D (57, .ireturn, 1) (mg 35 rfl)) ⟨⟨_, rfl⟩, hc6_3⟩
          · skip
            have q14 : (j) = (1) := by have z := (nI_eq (a := (j)) (b := (1)) (by omega) (by omega)).mp q14; omega
            refine X_iload_n C 1 (D (27, .iload_n 1, 1) (mg 16 rfl)) rfl rfl ?_
            refine X_iconst (v := nI (4)) C (D (28, .iconst 4, 1) (mg 17 rfl)) (by decide) ?_
            refine X_idiv C (D (29, .idiv, 1) (mg 18 rfl)) (by decide) ?_
            refine X_ti (y := nI ((a1) / (4))) (pk_div (by omega) (by omega) (by omega)) ?_
            refine X_iconst (v := nI (4)) C (D (30, .iconst 4, 1) (mg 19 rfl)) (by decide) ?_
            refine X_irem C (D (31, .irem, 1) (mg 20 rfl)) (by decide) ?_
            refine X_ti (y := nI (((a1) / (4)) % (4))) (pk_rem (by omega) (by omega) (by omega)) ?_
            refine X_goto (tgt := 38) C (D (32, .goto 6, 3) (mg 21 rfl)) (by decide) ?_
            refine X_istore (ls' := [some (.ref (wA w (m))), some (.int (nI (a1))), some (.int (nI (a2))), some (.int (nI (j))), some (.int (nI (((a1) / (4)) % (4))))]) C (D (38, .istore 4, 2) (mg 25 rfl)) (Nat.le_of_ble_eq_true rfl) rfl ?_
            refine X_aload_n C 0 (D (40, .aload_n 0, 1) (mg 26 rfl)) rfl rfl ?_
            refine X_get (v := .ref (wA w (m + 5))) C (m) 6 (by omega) hsm rfl rfl (by decide) inX8 fX8_27 rfl (D (41, .getfield 27, 3) (mg 27 rfl)) rfl ?_
            refine X_bipush (v := nI (28)) C (D (44, .bipush 28, 2) (mg 28 rfl)) (by decide) ?_
            refine X_iald (v := hp6 (m + 5) (28)) C (m + 5) (by omega) hs5 (vp_in_nI (by omega) (by omega)) (D (46, .iaload, 1) (mg 29 rfl)) (by rw [nI_clamp (by omega)]) ?_
            refine X_ti (y := nI (c9)) (hc6_2) ?_
            refine X_iload C (D (47, .iload 4, 2) (mg 30 rfl)) rfl ?_
            refine X_cS (As := [.int (nI (c9)), .int (nI (((a1) / (4)) % (4)))]) (st := []) C (post := _) (ct_X8_beside hw (j := c9) (by omega) (nI (((a1) / (4)) % (4))) hp6 gp6) kX8_110 (by decide) (by decide) rfl rfl (Nat.le_of_ble_eq_true rfl) (D (49, .invokestatic 110, 3) (mg 31 rfl)) rfl (fun v26 H24 G25 hv26 => ?_)
            obtain ⟨rfl, rfl, rfl⟩ := hv26
            obtain ⟨y27, ey27⟩ : ∃ y, y = bsA (c9) (nI (((a1) / (4)) % (4))) := ⟨_, rfl⟩
            have hy27 := bsA_alt (j := c9) (by omega) (nI (((a1) / (4)) % (4)))
            rw [← ey27] at hy27
            rw [← ey27]
            show X k w _ 52 [some (.ref (wA w (m))), some (.int (nI (a1))), some (.int (nI (a2))), some (.int (nI (j))), some (.int (nI (((a1) / (4)) % (4))))] [.int (y27)] hp6 gp6
            refine X_iconst (v := (-1 : Int32)) C (D (52, .iconst (-1), 1) (mg 32 rfl)) (by decide) ?_
            refine X_icmp_ne (tgt := 58) C (D (53, .if_icmp .ne 5, 3) (mg 33 rfl)) (by decide) (fun q28 => ?_) (fun q28 => ?_)
            · skip
              obtain ⟨c29, hc29, rfl⟩ := hy27.resolve_left q28
              refine X_aload_n C 0 (D (58, .aload_n 0, 1) (mg 36 rfl)) rfl rfl ?_
              refine X_get (v := .ref (wA w (m + 5))) C (m) 6 (by omega) hsm rfl rfl (by decide) inX8 fX8_27 rfl (D (59, .getfield 27, 3) (mg 37 rfl)) rfl ?_
              refine X_iload C (D (62, .iload 4, 2) (mg 38 rfl)) rfl ?_
              refine X_cS (As := [.ref (wA w (m + 5)), .int (nI (((a1) / (4)) % (4)))]) (st := []) C (post := _) (ct_X8_goStep hw (⟨by omega, hs5, by omega, by omega⟩ : rw56 w (m + 5) 56) (j := c9) (c := c29) (by omega) (by omega) (nI (((a1) / (4)) % (4))) hp6 gp6 (hc6_2) ey27.symm) kX8_134 (by decide) (by decide) rfl rfl (Nat.le_of_ble_eq_true rfl) (D (64, .invokestatic 134, 3) (mg 39 rfl)) rfl (fun v32 H30 G31 hv32 => ?_)
              obtain ⟨rfl, rfl, rfl⟩ := hv32
              show X k w _ 67 [some (.ref (wA w (m))), some (.int (nI (a1))), some (.int (nI (a2))), some (.int (nI (j))), some (.int (nI (((a1) / (4)) % (4))))] [] (stH hp6 (m + 5) (c29)) gp6
              refine X_iinc (v := nI (j + 1)) (ls' := [some (.ref (wA w (m))), some (.int (nI (a1))), some (.int (nI (a2))), some (.int (nI (j + 1))), some (.int (nI (((a1) / (4)) % (4))))]) C (D (67, .iinc 3 1, 3) (mg 40 rfl)) rfl (nI_add (j) 1) rfl ?_
              refine X_goto (tgt := 6) C (D (70, .goto (-64), 3) (mg 41 rfl)) (by decide) ?_
              refine X_los (ls' := [some (.ref (wA w (m))), some (.int (nI (a1))), some (.int (nI (a2))), some (.int (nI (j + 1))), none]) (by simp [lsub]) ?_
              refine X_eq (ls' := [some (.ref (wA w (m))), some (.int (nI (a1))), some (.int (nI (a2))), some (.int (nI (j + 1))), none]) (st' := []) (h' := (stH hp6 (m + 5) (c29))) (g' := gp6) rfl rfl rfl rfl ?_
              exact ih6 (c29) (j + 1) ((stH hp6 (m + 5) (c29))) (gp6) (by omega) (by omega) ((st_28 _ _ _ (by omega))) ⟨fun q i z0 => by have z := z0; unfold SM at z; rw [stH_ne _ _ _ (by omega)]; exact (hc6_3).1 q i z0, rU_k (fun i => by rw [stH_ne _ _ _ (by omega)]) (hc6_3).2⟩ (by omega)
            · skip
              subst q28
              refine X_iconst (v := (-1 : Int32)) C (D (56, .iconst (-1), 1) (mg 34 rfl)) (by decide) ?_
              exact X_iret C (D (57, .ireturn, 1) (mg 35 rfl)) ⟨⟨_, rfl⟩, hc6_3⟩
        · skip
          have q13 : (j) = (0) := by have z := (nI_eq (a := (j)) (b := (0)) (by omega) (by omega)).mp q13; omega
          refine X_iload_n C 1 (D (15, .iload_n 1, 1) (mg 9 rfl)) rfl rfl ?_
          refine X_bipush (v := nI (16)) C (D (16, .bipush 16, 2) (mg 10 rfl)) (by decide) ?_
          refine X_idiv C (D (18, .idiv, 1) (mg 11 rfl)) (by decide) ?_
          refine X_ti (y := nI ((a1) / (16))) (pk_div (by omega) (by omega) (by omega)) ?_
          refine X_goto (tgt := 38) C (D (19, .goto 19, 3) (mg 12 rfl)) (by decide) ?_
          refine X_istore (ls' := [some (.ref (wA w (m))), some (.int (nI (a1))), some (.int (nI (a2))), some (.int (nI (j))), some (.int (nI ((a1) / (16))))]) C (D (38, .istore 4, 2) (mg 25 rfl)) (Nat.le_of_ble_eq_true rfl) rfl ?_
          refine X_aload_n C 0 (D (40, .aload_n 0, 1) (mg 26 rfl)) rfl rfl ?_
          refine X_get (v := .ref (wA w (m + 5))) C (m) 6 (by omega) hsm rfl rfl (by decide) inX8 fX8_27 rfl (D (41, .getfield 27, 3) (mg 27 rfl)) rfl ?_
          refine X_bipush (v := nI (28)) C (D (44, .bipush 28, 2) (mg 28 rfl)) (by decide) ?_
          refine X_iald (v := hp6 (m + 5) (28)) C (m + 5) (by omega) hs5 (vp_in_nI (by omega) (by omega)) (D (46, .iaload, 1) (mg 29 rfl)) (by rw [nI_clamp (by omega)]) ?_
          refine X_ti (y := nI (c9)) (hc6_2) ?_
          refine X_iload C (D (47, .iload 4, 2) (mg 30 rfl)) rfl ?_
          refine X_cS (As := [.int (nI (c9)), .int (nI ((a1) / (16)))]) (st := []) C (post := _) (ct_X8_beside hw (j := c9) (by omega) (nI ((a1) / (16))) hp6 gp6) kX8_110 (by decide) (by decide) rfl rfl (Nat.le_of_ble_eq_true rfl) (D (49, .invokestatic 110, 3) (mg 31 rfl)) rfl (fun v35 H33 G34 hv35 => ?_)
          obtain ⟨rfl, rfl, rfl⟩ := hv35
          obtain ⟨y36, ey36⟩ : ∃ y, y = bsA (c9) (nI ((a1) / (16))) := ⟨_, rfl⟩
          have hy36 := bsA_alt (j := c9) (by omega) (nI ((a1) / (16)))
          rw [← ey36] at hy36
          rw [← ey36]
          show X k w _ 52 [some (.ref (wA w (m))), some (.int (nI (a1))), some (.int (nI (a2))), some (.int (nI (j))), some (.int (nI ((a1) / (16))))] [.int (y36)] hp6 gp6
          refine X_iconst (v := (-1 : Int32)) C (D (52, .iconst (-1), 1) (mg 32 rfl)) (by decide) ?_
          refine X_icmp_ne (tgt := 58) C (D (53, .if_icmp .ne 5, 3) (mg 33 rfl)) (by decide) (fun q37 => ?_) (fun q37 => ?_)
          · skip
            obtain ⟨c38, hc38, rfl⟩ := hy36.resolve_left q37
            refine X_aload_n C 0 (D (58, .aload_n 0, 1) (mg 36 rfl)) rfl rfl ?_
            refine X_get (v := .ref (wA w (m + 5))) C (m) 6 (by omega) hsm rfl rfl (by decide) inX8 fX8_27 rfl (D (59, .getfield 27, 3) (mg 37 rfl)) rfl ?_
            refine X_iload C (D (62, .iload 4, 2) (mg 38 rfl)) rfl ?_
            refine X_cS (As := [.ref (wA w (m + 5)), .int (nI ((a1) / (16)))]) (st := []) C (post := _) (ct_X8_goStep hw (⟨by omega, hs5, by omega, by omega⟩ : rw56 w (m + 5) 56) (j := c9) (c := c38) (by omega) (by omega) (nI ((a1) / (16))) hp6 gp6 (hc6_2) ey36.symm) kX8_134 (by decide) (by decide) rfl rfl (Nat.le_of_ble_eq_true rfl) (D (64, .invokestatic 134, 3) (mg 39 rfl)) rfl (fun v41 H39 G40 hv41 => ?_)
            obtain ⟨rfl, rfl, rfl⟩ := hv41
            show X k w _ 67 [some (.ref (wA w (m))), some (.int (nI (a1))), some (.int (nI (a2))), some (.int (nI (j))), some (.int (nI ((a1) / (16))))] [] (stH hp6 (m + 5) (c38)) gp6
            refine X_iinc (v := nI (j + 1)) (ls' := [some (.ref (wA w (m))), some (.int (nI (a1))), some (.int (nI (a2))), some (.int (nI (j + 1))), some (.int (nI ((a1) / (16))))]) C (D (67, .iinc 3 1, 3) (mg 40 rfl)) rfl (nI_add (j) 1) rfl ?_
            refine X_goto (tgt := 6) C (D (70, .goto (-64), 3) (mg 41 rfl)) (by decide) ?_
            refine X_los (ls' := [some (.ref (wA w (m))), some (.int (nI (a1))), some (.int (nI (a2))), some (.int (nI (j + 1))), none]) (by simp [lsub]) ?_
            refine X_eq (ls' := [some (.ref (wA w (m))), some (.int (nI (a1))), some (.int (nI (a2))), some (.int (nI (j + 1))), none]) (st' := []) (h' := (stH hp6 (m + 5) (c38))) (g' := gp6) rfl rfl rfl rfl ?_
            exact ih6 (c38) (j + 1) ((stH hp6 (m + 5) (c38))) (gp6) (by omega) (by omega) ((st_28 _ _ _ (by omega))) ⟨fun q i z0 => by have z := z0; unfold SM at z; rw [stH_ne _ _ _ (by omega)]; exact (hc6_3).1 q i z0, rU_k (fun i => by rw [stH_ne _ _ _ (by omega)]) (hc6_3).2⟩ (by omega)
          · skip
            subst q37
            refine X_iconst (v := (-1 : Int32)) C (D (56, .iconst (-1), 1) (mg 34 rfl)) (by decide) ?_
            exact X_iret C (D (57, .ireturn, 1) (mg 35 rfl)) ⟨⟨_, rfl⟩, hc6_3⟩
  refine X_eq (ls' := [some (.ref (wA w (m))), some (.int (nI (a1))), some (.int (nI (a2))), some (.int (nI (0))), none]) (st' := []) (h' := (haH h m)) (g' := g) rfl rfl rfl rfl ?_
  exact lp6 _ (c0) (0) ((haH h m)) (g) (by omega) (by omega) (((haH_at _ _ (by omega))).trans hat) ⟨fun q i z0 => by have z := z0; unfold SM at z; rw [haH_ne _ _ (by omega)], rU_k (fun i => by rw [haH_ne _ _ (by omega)]) hI.1⟩ (Nat.le_refl _)
set_option maxHeartbeats 4000000 in
set_option maxRecDepth 100000 in
theorem ct_X8_three {l : Launch} {w : Kw} (hw : wOk w) {m : Nat} (hM : shM w m) (a1 : Int32) (a2 : Int32) (h : xI) (g : xJ) (hI : mOk h m) : Ct l w yX8_three cX8_three 7 (some .int) 5 115 [.ref (wA w (m)), .int (a1), .int (a2)] h g (pQ (mW m h)) := by
  refine Ct_of (ls := [some (.ref (wA w (m))), some (.int (a1)), some (.int (a2)), none, none, none, none]) (by decide) hw (Nat.le_of_ble_eq_true rfl) rfl (fun k hkl C => ?_)
  have C : Cx k w cX8_three RX8 7 (some .int) 5 115 := C
  have D := dtX8_three
  subst hkl
  have hM0 := hM
  obtain ⟨hm, hsm, hs1, hs2, hs3, hs4, hs5, hs6, hs7, hs8, hs9, hs10, hs11⟩ := hM
  have hM := hM0
  have hI0 := hI
  obtain ⟨⟨⟨nu, hnu, eu⟩, ⟨c0, hc0, hat⟩, hpl⟩, ⟨⟨ns, hns, hse⟩, ⟨nm, hnm, hma⟩⟩, hK, ⟨nt, hnt, htx⟩⟩ := hI
  have hI := hI0
  refine X_iload_n C 1 (D (0, .iload_n 1, 1) (mg 0 rfl)) rfl rfl ?_
  refine X_i2l C (D (1, .i2l, 1) (mg 1 rfl)) ?_
  refine X_lconst (v := lN 0) C (D (2, .lconst 0, 1) (mg 2 rfl)) (by decide) ?_
  refine X_ldc2 C (D (3, .ldc2_w 138, 3) (mg 3 rfl)) vX8_138 ?_
  refine X_tl (y := lN (60)) rfl ?_
  refine X_cS (As := [.long ((a1).toInt64), .long (lN (0)), .long (lN (60))]) (st := []) C (post := _) (ct_X8_in hw ((a1).toInt64) (lN (0)) (lN (60)) h g) kX8_54 (by decide) (by decide) rfl rfl (Nat.le_of_ble_eq_true rfl) (D (6, .invokestatic 54, 3) (mg 4 rfl)) rfl (fun v3 H1 G2 hv3 => ?_)
  obtain ⟨rfl, rfl, rfl⟩ := hv3
  show X k w _ 9 [some (.ref (wA w (m))), some (.int (a1)), some (.int (a2)), none, none, none, none] [.int (if (lN (0)).toInt ≤ ((a1).toInt64).toInt ∧ ((a1).toInt64).toInt ≤ (lN (60)).toInt then 1 else 0)] h g
  refine X_if_eq (tgt := 22) C (D (9, .ifCond .eq 13, 3) (mg 5 rfl)) (by decide) (fun q4 => ?_) (fun q4 => ?_)
  · skip
    have q4 : ¬ ((lN (0)).toInt ≤ ((a1).toInt64).toInt ∧ ((a1).toInt64).toInt ≤ (lN (60)).toInt) := bz0.mp q4
    simp only [i6, pk_lT (n := 0) (by omega), pk_lT (n := 60) (by omega)] at q4
    refine X_aload_n C 0 (D (22, .aload_n 0, 1) (mg 12 rfl)) rfl rfl ?_
    refine X_bipush (v := (-2 : Int32)) C (D (23, .bipush (-2), 2) (mg 13 rfl)) (by decide) ?_
    refine X_cV (As := [.int ((-2 : Int32))]) (st := []) C (post := _) (m) (by omega) hsm rfl (ct_X8_bad hw hM ((-2 : Int32)) h g) kX8_75 (by decide) (by decide) rfl rfl (Nat.le_of_ble_eq_true rfl) (D (25, .invokevirtual 75, 3) (mg 14 rfl)) rfl (fun v7 H5 G6 hv7 => ?_)
    obtain ⟨rfl, rfl, rfl⟩ := hv7
    show X k w _ 28 [some (.ref (wA w (m))), some (.int (a1)), some (.int (a2)), none, none, none, none] [.int ((-2 : Int32))] (rfH h m 0) g
    exact X_iret C (D (28, .ireturn, 1) (mg 15 rfl)) ⟨⟨_, rfl⟩, ⟨fun q i z0 => by have z := z0; unfold SM at z; rw [rfH_ne _ _ _ (by omega)], rU_k (fun i => by rw [rfH_ne _ _ _ (by omega)]) hI.1⟩⟩
  · skip
    have q4 : ((lN (0)).toInt ≤ ((a1).toInt64).toInt ∧ ((a1).toInt64).toInt ≤ (lN (60)).toInt) := bz1.mp q4
    simp only [i6, pk_lT (n := 0) (by omega), pk_lT (n := 60) (by omega)] at q4
    obtain ⟨n8, hn8, rfl⟩ := nI_i (x := a1) (n := 61) (by omega) (by omega)
    refine X_iload_n C 2 (D (12, .iload_n 2, 1) (mg 6 rfl)) rfl rfl ?_
    refine X_i2l C (D (13, .i2l, 1) (mg 7 rfl)) ?_
    refine X_lconst (v := lN 0) C (D (14, .lconst 0, 1) (mg 8 rfl)) (by decide) ?_
    refine X_lconst (v := lN 1) C (D (15, .lconst 1, 1) (mg 9 rfl)) (by decide) ?_
    refine X_cS (As := [.long ((a2).toInt64), .long (lN (0)), .long (lN (1))]) (st := []) C (post := _) (ct_X8_in hw ((a2).toInt64) (lN (0)) (lN (1)) h g) kX8_54 (by decide) (by decide) rfl rfl (Nat.le_of_ble_eq_true rfl) (D (16, .invokestatic 54, 3) (mg 10 rfl)) rfl (fun v11 H9 G10 hv11 => ?_)
    obtain ⟨rfl, rfl, rfl⟩ := hv11
    show X k w _ 19 [some (.ref (wA w (m))), some (.int (nI (n8))), some (.int (a2)), none, none, none, none] [.int (if (lN (0)).toInt ≤ ((a2).toInt64).toInt ∧ ((a2).toInt64).toInt ≤ (lN (1)).toInt then 1 else 0)] h g
    refine X_if_ne (tgt := 29) C (D (19, .ifCond .ne 10, 3) (mg 11 rfl)) (by decide) (fun q12 => ?_) (fun q12 => ?_)
    · skip
      have q12 : ((lN (0)).toInt ≤ ((a2).toInt64).toInt ∧ ((a2).toInt64).toInt ≤ (lN (1)).toInt) := bz1.mp q12
      simp only [i6, pk_lT (n := 0) (by omega), pk_lT (n := 1) (by omega)] at q12
      refine X_iconst (v := (-1 : Int32)) C (D (29, .iconst (-1), 1) (mg 16 rfl)) (by decide) ?_
      refine X_istore_n (ls' := [some (.ref (wA w (m))), some (.int (nI (n8))), some (.int (a2)), some (.int ((-1 : Int32))), none, none, none]) C 3 (D (30, .istore_n 3, 1) (mg 17 rfl)) rfl (Nat.le_of_ble_eq_true rfl) rfl ?_
      refine X_iconst (v := (-1 : Int32)) C (D (31, .iconst (-1), 1) (mg 18 rfl)) (by decide) ?_
      refine X_istore (ls' := [some (.ref (wA w (m))), some (.int (nI (n8))), some (.int (a2)), some (.int ((-1 : Int32))), some (.int ((-1 : Int32))), none, none]) C (D (32, .istore 4, 2) (mg 19 rfl)) (Nat.le_of_ble_eq_true rfl) rfl ?_
      refine X_iconst (v := nI (0)) C (D (34, .iconst 0, 1) (mg 20 rfl)) (by decide) ?_
      refine X_istore (ls' := [some (.ref (wA w (m))), some (.int (nI (n8))), some (.int (a2)), some (.int ((-1 : Int32))), some (.int ((-1 : Int32))), some (.int (nI (0))), none]) C (D (35, .istore 5, 2) (mg 21 rfl)) (Nat.le_of_ble_eq_true rfl) rfl ?_
      have lp37 : ∀ (nn37 : Nat) (j : Nat) (b3 : Int32) (b4 : Int32) (hp37 : xI) (gp37 : xJ), (j ≤ 64) → (mW m h hp37) → 65 - j ≤ nn37 → X k w (Zq k w (pQ (mW m h))) 37 [some (.ref (wA w (m))), some (.int (nI (n8))), some (.int (a2)), some (.int (b3)), some (.int (b4)), some (.int (nI (j))), none] [] hp37 gp37 := by
        intro nn37
        induction nn37 with
        | zero => intro j b3 b4 hp37 gp37 hc37_0 hc37_1 hz; exact absurd hz (by omega)
        | succ nn37 ih37 =>
          intro j b3 b4 hp37 gp37 hc37_0 hc37_1 hz37
          obtain ⟨⟨u13, hu13, eu13⟩, ⟨c14, hc14, ec14⟩, -⟩ := (hc37_1).2
          refine X_iload C (D (37, .iload 5, 2) (mg 22 rfl)) rfl ?_
          refine X_bipush (v := nI (64)) C (D (39, .bipush 64, 2) (mg 23 rfl)) (by decide) ?_
          refine X_icmp_ge (tgt := 87) C (D (41, .if_icmp .ge 46, 3) (mg 24 rfl)) (by decide) (fun q15 => ?_) (fun q15 => ?_)
          · skip
            have q15 : (j) ≥ (64) := by have z := (nI_leI (a := (64)) (b := (j)) (by omega) (by omega)).mp q15; omega
            refine X_iload_n C 2 (D (87, .iload_n 2, 1) (mg 46 rfl)) rfl rfl ?_
            refine X_if_ne (tgt := 95) C (D (88, .ifCond .ne 7, 3) (mg 47 rfl)) (by decide) (fun q16 => ?_) (fun q16 => ?_)
            · skip
              refine X_bipush (v := nI (100)) C (D (95, .bipush 100, 2) (mg 50 rfl)) (by decide) ?_
              refine X_iload C (D (97, .iload 4, 2) (mg 51 rfl)) rfl ?_
              refine X_bipush (v := nI (16)) C (D (99, .bipush 16, 2) (mg 52 rfl)) (by decide) ?_
              refine X_idiv C (D (101, .idiv, 1) (mg 53 rfl)) (by decide) ?_
              refine X_imul C (D (102, .imul, 1) (mg 54 rfl)) ?_
              refine X_bipush (v := nI (10)) C (D (103, .bipush 10, 2) (mg 55 rfl)) (by decide) ?_
              refine X_iload C (D (105, .iload 4, 2) (mg 56 rfl)) rfl ?_
              refine X_iconst (v := nI (4)) C (D (107, .iconst 4, 1) (mg 57 rfl)) (by decide) ?_
              refine X_idiv C (D (108, .idiv, 1) (mg 58 rfl)) (by decide) ?_
              refine X_iconst (v := nI (4)) C (D (109, .iconst 4, 1) (mg 59 rfl)) (by decide) ?_
              refine X_irem C (D (110, .irem, 1) (mg 60 rfl)) (by decide) ?_
              refine X_imul C (D (111, .imul, 1) (mg 61 rfl)) ?_
              refine X_iadd C (D (112, .iadd, 1) (mg 62 rfl)) ?_
              refine X_iload C (D (113, .iload 4, 2) (mg 63 rfl)) rfl ?_
              refine X_iconst (v := nI (4)) C (D (115, .iconst 4, 1) (mg 64 rfl)) (by decide) ?_
              refine X_irem C (D (116, .irem, 1) (mg 65 rfl)) (by decide) ?_
              refine X_iadd C (D (117, .iadd, 1) (mg 66 rfl)) ?_
              exact X_iret C (D (118, .ireturn, 1) (mg 67 rfl)) ⟨⟨_, rfl⟩, hc37_1⟩
            · skip
              refine X_iload_n C 3 (D (91, .iload_n 3, 1) (mg 48 rfl)) rfl rfl ?_
              refine X_goto (tgt := 118) C (D (92, .goto 26, 3) (mg 49 rfl)) (by decide) ?_
              exact X_iret C (D (118, .ireturn, 1) (mg 67 rfl)) ⟨⟨_, rfl⟩, hc37_1⟩
          · skip
            have q15 : (j) < (64) := by have z : ¬ ((64) ≤ (j)) := fun u => q15 ((nI_leI (a := (64)) (b := (j)) (by omega) (by omega)).mpr u); omega
            refine X_aload_n C 0 (D (44, .aload_n 0, 1) (mg 25 rfl)) rfl rfl ?_
            refine X_iload C (D (45, .iload 5, 2) (mg 26 rfl)) rfl ?_
            refine X_iload_n C 1 (D (47, .iload_n 1, 1) (mg 27 rfl)) rfl rfl ?_
            refine X_cV (As := [.int (nI (j)), .int (nI (n8))]) (st := []) C (post := _) (m) (by omega) hsm rfl (ct_X8_greenBy hw hM (a1 := j) (by omega) (a2 := n8) (by omega) hp37 gp37 (mOk_w hI hc37_1)) kX8_177 (by decide) (by decide) rfl rfl (Nat.le_of_ble_eq_true rfl) (D (48, .invokevirtual 177, 3) (mg 28 rfl)) rfl (fun v19 H17 G18 hv19 => ?_)
            obtain ⟨⟨y20, rfl⟩, w21⟩ := hv19
            have w21 := mW_t hc37_1 w21
            obtain ⟨⟨u22, hu22, eu22⟩, ⟨c23, hc23, ec23⟩, -⟩ := (w21).2
            show X k w _ 51 [some (.ref (wA w (m))), some (.int (nI (n8))), some (.int (a2)), some (.int (b3)), some (.int (b4)), some (.int (nI (j))), none] [.int (y20)] H17 G18
            refine X_istore (ls' := [some (.ref (wA w (m))), some (.int (nI (n8))), some (.int (a2)), some (.int (b3)), some (.int (b4)), some (.int (nI (j))), some (.int (y20))]) C (D (51, .istore 6, 2) (mg 29 rfl)) (Nat.le_of_ble_eq_true rfl) rfl ?_
            refine X_iload C (D (53, .iload 6, 2) (mg 30 rfl)) rfl ?_
            refine X_iload_n C 3 (D (55, .iload_n 3, 1) (mg 31 rfl)) rfl rfl ?_
            refine X_icmp_le (tgt := 64) C (D (56, .if_icmp .le 8, 3) (mg 32 rfl)) (by decide) (fun q24 => ?_) (fun q24 => ?_)
            · skip
              refine X_iload C (D (64, .iload 4, 2) (mg 35 rfl)) rfl ?_
              refine X_istore (ls' := [some (.ref (wA w (m))), some (.int (nI (n8))), some (.int (a2)), some (.int (b3)), some (.int (b4)), some (.int (nI (j))), some (.int (y20))]) C (D (66, .istore 4, 2) (mg 36 rfl)) (Nat.le_of_ble_eq_true rfl) rfl ?_
              refine X_iload C (D (68, .iload 6, 2) (mg 37 rfl)) rfl ?_
              refine X_iload_n C 3 (D (70, .iload_n 3, 1) (mg 38 rfl)) rfl rfl ?_
              refine X_icmp_le (tgt := 79) C (D (71, .if_icmp .le 8, 3) (mg 39 rfl)) (by decide) (fun q25 => ?_) (fun q25 => ?_)
              · skip
                refine X_iload_n C 3 (D (79, .iload_n 3, 1) (mg 42 rfl)) rfl rfl ?_
                refine X_istore_n (ls' := [some (.ref (wA w (m))), some (.int (nI (n8))), some (.int (a2)), some (.int (b3)), some (.int (b4)), some (.int (nI (j))), some (.int (y20))]) C 3 (D (80, .istore_n 3, 1) (mg 43 rfl)) rfl (Nat.le_of_ble_eq_true rfl) rfl ?_
                refine X_iinc (v := nI (j + 1)) (ls' := [some (.ref (wA w (m))), some (.int (nI (n8))), some (.int (a2)), some (.int (b3)), some (.int (b4)), some (.int (nI (j + 1))), some (.int (y20))]) C (D (81, .iinc 5 1, 3) (mg 44 rfl)) rfl (nI_add (j) 1) rfl ?_
                refine X_goto (tgt := 37) C (D (84, .goto (-47), 3) (mg 45 rfl)) (by decide) ?_
                refine X_los (ls' := [some (.ref (wA w (m))), some (.int (nI (n8))), some (.int (a2)), some (.int (b3)), some (.int (b4)), some (.int (nI (j + 1))), none]) (by simp [lsub]) ?_
                refine X_eq (ls' := [some (.ref (wA w (m))), some (.int (nI (n8))), some (.int (a2)), some (.int (b3)), some (.int (b4)), some (.int (nI (j + 1))), none]) (st' := []) (h' := H17) (g' := G18) rfl rfl rfl rfl ?_
                exact ih37 (j + 1) (b3) (b4) (H17) (G18) (by omega) w21 (by omega)
              · skip
                refine X_iload C (D (74, .iload 6, 2) (mg 40 rfl)) rfl ?_
                refine X_goto (tgt := 80) C (D (76, .goto 4, 3) (mg 41 rfl)) (by decide) ?_
                refine X_istore_n (ls' := [some (.ref (wA w (m))), some (.int (nI (n8))), some (.int (a2)), some (.int (y20)), some (.int (b4)), some (.int (nI (j))), some (.int (y20))]) C 3 (D (80, .istore_n 3, 1) (mg 43 rfl)) rfl (Nat.le_of_ble_eq_true rfl) rfl ?_
                refine X_iinc (v := nI (j + 1)) (ls' := [some (.ref (wA w (m))), some (.int (nI (n8))), some (.int (a2)), some (.int (y20)), some (.int (b4)), some (.int (nI (j + 1))), some (.int (y20))]) C (D (81, .iinc 5 1, 3) (mg 44 rfl)) rfl (nI_add (j) 1) rfl ?_
                refine X_goto (tgt := 37) C (D (84, .goto (-47), 3) (mg 45 rfl)) (by decide) ?_
                refine X_los (ls' := [some (.ref (wA w (m))), some (.int (nI (n8))), some (.int (a2)), some (.int (y20)), some (.int (b4)), some (.int (nI (j + 1))), none]) (by simp [lsub]) ?_
                refine X_eq (ls' := [some (.ref (wA w (m))), some (.int (nI (n8))), some (.int (a2)), some (.int (y20)), some (.int (b4)), some (.int (nI (j + 1))), none]) (st' := []) (h' := H17) (g' := G18) rfl rfl rfl rfl ?_
                exact ih37 (j + 1) (y20) (b4) (H17) (G18) (by omega) w21 (by omega)
            · skip
              refine X_iload C (D (59, .iload 5, 2) (mg 33 rfl)) rfl ?_
              refine X_goto (tgt := 66) C (D (61, .goto 5, 3) (mg 34 rfl)) (by decide) ?_
              refine X_istore (ls' := [some (.ref (wA w (m))), some (.int (nI (n8))), some (.int (a2)), some (.int (b3)), some (.int (nI (j))), some (.int (nI (j))), some (.int (y20))]) C (D (66, .istore 4, 2) (mg 36 rfl)) (Nat.le_of_ble_eq_true rfl) rfl ?_
              refine X_iload C (D (68, .iload 6, 2) (mg 37 rfl)) rfl ?_
              refine X_iload_n C 3 (D (70, .iload_n 3, 1) (mg 38 rfl)) rfl rfl ?_
              refine X_icmp_le (tgt := 79) C (D (71, .if_icmp .le 8, 3) (mg 39 rfl)) (by decide) (fun q26 => ?_) (fun q26 => ?_)
              · skip
                refine X_iload_n C 3 (D (79, .iload_n 3, 1) (mg 42 rfl)) rfl rfl ?_
                refine X_istore_n (ls' := [some (.ref (wA w (m))), some (.int (nI (n8))), some (.int (a2)), some (.int (b3)), some (.int (nI (j))), some (.int (nI (j))), some (.int (y20))]) C 3 (D (80, .istore_n 3, 1) (mg 43 rfl)) rfl (Nat.le_of_ble_eq_true rfl) rfl ?_
                refine X_iinc (v := nI (j + 1)) (ls' := [some (.ref (wA w (m))), some (.int (nI (n8))), some (.int (a2)), some (.int (b3)), some (.int (nI (j))), some (.int (nI (j + 1))), some (.int (y20))]) C (D (81, .iinc 5 1, 3) (mg 44 rfl)) rfl (nI_add (j) 1) rfl ?_
                refine X_goto (tgt := 37) C (D (84, .goto (-47), 3) (mg 45 rfl)) (by decide) ?_
                refine X_los (ls' := [some (.ref (wA w (m))), some (.int (nI (n8))), some (.int (a2)), some (.int (b3)), some (.int (nI (j))), some (.int (nI (j + 1))), none]) (by simp [lsub]) ?_
                refine X_eq (ls' := [some (.ref (wA w (m))), some (.int (nI (n8))), some (.int (a2)), some (.int (b3)), some (.int (nI (j))), some (.int (nI (j + 1))), none]) (st' := []) (h' := H17) (g' := G18) rfl rfl rfl rfl ?_
                exact ih37 (j + 1) (b3) (nI (j)) (H17) (G18) (by omega) w21 (by omega)
              · skip
                refine X_iload C (D (74, .iload 6, 2) (mg 40 rfl)) rfl ?_
                refine X_goto (tgt := 80) C (D (76, .goto 4, 3) (mg 41 rfl)) (by decide) ?_
                refine X_istore_n (ls' := [some (.ref (wA w (m))), some (.int (nI (n8))), some (.int (a2)), some (.int (y20)), some (.int (nI (j))), some (.int (nI (j))), some (.int (y20))]) C 3 (D (80, .istore_n 3, 1) (mg 43 rfl)) rfl (Nat.le_of_ble_eq_true rfl) rfl ?_
                refine X_iinc (v := nI (j + 1)) (ls' := [some (.ref (wA w (m))), some (.int (nI (n8))), some (.int (a2)), some (.int (y20)), some (.int (nI (j))), some (.int (nI (j + 1))), some (.int (y20))]) C (D (81, .iinc 5 1, 3) (mg 44 rfl)) rfl (nI_add (j) 1) rfl ?_
                refine X_goto (tgt := 37) C (D (84, .goto (-47), 3) (mg 45 rfl)) (by decide) ?_
                refine X_los (ls' := [some (.ref (wA w (m))), some (.int (nI (n8))), some (.int (a2)), some (.int (y20)), some (.int (nI (j))), some (.int (nI (j + 1))), none]) (by simp [lsub]) ?_
                refine X_eq (ls' := [some (.ref (wA w (m))), some (.int (nI (n8))), some (.int (a2)), some (.int (y20)), some (.int (nI (j))), some (.int (nI (j + 1))), none]) (st' := []) (h' := H17) (g' := G18) rfl rfl rfl rfl ?_
                exact ih37 (j + 1) (y20) (nI (j)) (H17) (G18) (by omega) w21 (by omega)
      refine X_eq (ls' := [some (.ref (wA w (m))), some (.int (nI (n8))), some (.int (a2)), some (.int ((-1 : Int32))), some (.int ((-1 : Int32))), some (.int (nI (0))), none]) (st' := []) (h' := h) (g' := g) rfl rfl rfl rfl ?_
      exact lp37 _ (0) ((-1 : Int32)) ((-1 : Int32)) (h) (g) (by omega) (mW_r hI) (Nat.le_refl _)
    · skip
      have q12 : ¬ ((lN (0)).toInt ≤ ((a2).toInt64).toInt ∧ ((a2).toInt64).toInt ≤ (lN (1)).toInt) := bz0.mp q12
      simp only [i6, pk_lT (n := 0) (by omega), pk_lT (n := 1) (by omega)] at q12
      refine X_aload_n C 0 (D (22, .aload_n 0, 1) (mg 12 rfl)) rfl rfl ?_
      refine X_bipush (v := (-2 : Int32)) C (D (23, .bipush (-2), 2) (mg 13 rfl)) (by decide) ?_
      refine X_cV (As := [.int ((-2 : Int32))]) (st := []) C (post := _) (m) (by omega) hsm rfl (ct_X8_bad hw hM ((-2 : Int32)) h g) kX8_75 (by decide) (by decide) rfl rfl (Nat.le_of_ble_eq_true rfl) (D (25, .invokevirtual 75, 3) (mg 14 rfl)) rfl (fun v29 H27 G28 hv29 => ?_)
      obtain ⟨rfl, rfl, rfl⟩ := hv29
      show X k w _ 28 [some (.ref (wA w (m))), some (.int (nI (n8))), some (.int (a2)), none, none, none, none] [.int ((-2 : Int32))] (rfH h m 0) g
      exact X_iret C (D (28, .ireturn, 1) (mg 15 rfl)) ⟨⟨_, rfl⟩, ⟨fun q i z0 => by have z := z0; unfold SM at z; rw [rfH_ne _ _ _ (by omega)], rU_k (fun i => by rw [rfH_ne _ _ _ (by omega)]) hI.1⟩⟩
set_option maxHeartbeats 4000000 in
set_option maxRecDepth 100000 in
theorem ct_X8_mostAlike {l : Launch} {w : Kw} (hw : wOk w) {m : Nat} (hM : shM w m) (a1 : Int32) (h : xI) (g : xJ)  : Ct l w yX8_mostAlike cX8_mostAlike 6 (some .int) 1 21 [.ref (wA w (m)), .int (a1)] h g (pI h g) := by
  refine Ct_of (ls := [some (.ref (wA w (m))), some (.int (a1)), none, none, none, none]) (by decide) hw (Nat.le_of_ble_eq_true rfl) rfl (fun k hkl C => ?_)
  have C : Cx k w cX8_mostAlike RX8 6 (some .int) 1 21 := C
  have D := dtX8_mostAlike
  subst hkl
  have hM0 := hM
  obtain ⟨hm, hsm, hs1, hs2, hs3, hs4, hs5, hs6, hs7, hs8, hs9, hs10, hs11⟩ := hM
  have hM := hM0
  refine X_iconst (v := nI (0)) C (D (0, .iconst 0, 1) (mg 0 rfl)) (by decide) ?_
  refine X_istore_n (ls' := [some (.ref (wA w (m))), some (.int (a1)), some (.int (nI (0))), none, none, none]) C 2 (D (1, .istore_n 2, 1) (mg 1 rfl)) rfl (Nat.le_of_ble_eq_true rfl) rfl ?_
  refine X_iconst (v := nI (0)) C (D (2, .iconst 0, 1) (mg 2 rfl)) (by decide) ?_
  refine X_istore_n (ls' := [some (.ref (wA w (m))), some (.int (a1)), some (.int (nI (0))), some (.int (nI (0))), none, none]) C 3 (D (3, .istore_n 3, 1) (mg 3 rfl)) rfl (Nat.le_of_ble_eq_true rfl) rfl ?_
  have lp4 : ∀ (nn4 : Nat) (j : Nat) (b : Int32), (j ≤ 6) → 7 - j ≤ nn4 → X k w (Zq k w (pI h g)) 4 [some (.ref (wA w (m))), some (.int (a1)), some (.int (b)), some (.int (nI (j))), none, none] [] h g := by
    intro nn4
    induction nn4 with
    | zero => intro j b hc4_0 hz; exact absurd hz (by omega)
    | succ nn4 ih4 =>
      intro j b hc4_0 hz4
      refine X_iload_n C 3 (D (4, .iload_n 3, 1) (mg 4 rfl)) rfl rfl ?_
      refine X_bipush (v := nI (6)) C (D (5, .bipush 6, 2) (mg 5 rfl)) (by decide) ?_
      refine X_icmp_ge (tgt := 91) C (D (7, .if_icmp .ge 84, 3) (mg 6 rfl)) (by decide) (fun q1 => ?_) (fun q1 => ?_)
      · skip
        have q1 : (j) ≥ (6) := by have z := (nI_leI (a := (6)) (b := (j)) (by omega) (by omega)).mp q1; omega
        refine X_iload_n C 2 (D (91, .iload_n 2, 1) (mg 48 rfl)) rfl rfl ?_
        exact X_iret C (D (92, .ireturn, 1) (mg 49 rfl)) ⟨⟨_, rfl⟩, rfl, rfl⟩
      · skip
        have q1 : (j) < (6) := by have z : ¬ ((6) ≤ (j)) := fun u => q1 ((nI_leI (a := (6)) (b := (j)) (by omega) (by omega)).mpr u); omega
        refine X_iconst (v := nI (0)) C (D (10, .iconst 0, 1) (mg 7 rfl)) (by decide) ?_
        refine X_istore (ls' := [some (.ref (wA w (m))), some (.int (a1)), some (.int (b)), some (.int (nI (j))), some (.int (nI (0))), none]) C (D (11, .istore 4, 2) (mg 8 rfl)) (Nat.le_of_ble_eq_true rfl) rfl ?_
        refine X_iconst (v := nI (0)) C (D (13, .iconst 0, 1) (mg 9 rfl)) (by decide) ?_
        refine X_istore (ls' := [some (.ref (wA w (m))), some (.int (a1)), some (.int (b)), some (.int (nI (j))), some (.int (nI (0))), some (.int (nI (0)))]) C (D (14, .istore 5, 2) (mg 10 rfl)) (Nat.le_of_ble_eq_true rfl) rfl ?_
        have lp16 : ∀ (nn16 : Nat) (i5 : Nat) (b4 : Int32), (i5 ≤ 6) → 7 - i5 ≤ nn16 → X k w (Zq k w (pI h g)) 16 [some (.ref (wA w (m))), some (.int (a1)), some (.int (b)), some (.int (nI (j))), some (.int (b4)), some (.int (nI (i5)))] [] h g := by
          intro nn16
          induction nn16 with
          | zero => intro i5 b4 hc16_0 hz; exact absurd hz (by omega)
          | succ nn16 ih16 =>
            intro i5 b4 hc16_0 hz16
            refine X_iload C (D (16, .iload 5, 2) (mg 11 rfl)) rfl ?_
            refine X_bipush (v := nI (6)) C (D (18, .bipush 6, 2) (mg 12 rfl)) (by decide) ?_
            refine X_icmp_ge (tgt := 72) C (D (20, .if_icmp .ge 52, 3) (mg 13 rfl)) (by decide) (fun q2 => ?_) (fun q2 => ?_)
            · skip
              have q2 : (i5) ≥ (6) := by have z := (nI_leI (a := (6)) (b := (i5)) (by omega) (by omega)).mp q2; omega
              refine X_iload C (D (72, .iload 4, 2) (mg 39 rfl)) rfl ?_
              refine X_iload_n C 2 (D (74, .iload_n 2, 1) (mg 40 rfl)) rfl rfl ?_
              refine X_icmp_le (tgt := 83) C (D (75, .if_icmp .le 8, 3) (mg 41 rfl)) (by decide) (fun q3 => ?_) (fun q3 => ?_)
              · skip
                refine X_iload_n C 2 (D (83, .iload_n 2, 1) (mg 44 rfl)) rfl rfl ?_
                refine X_istore_n (ls' := [some (.ref (wA w (m))), some (.int (a1)), some (.int (b)), some (.int (nI (j))), some (.int (b4)), some (.int (nI (i5)))]) C 2 (D (84, .istore_n 2, 1) (mg 45 rfl)) rfl (Nat.le_of_ble_eq_true rfl) rfl ?_
                refine X_iinc (v := nI (j + 1)) (ls' := [some (.ref (wA w (m))), some (.int (a1)), some (.int (b)), some (.int (nI (j + 1))), some (.int (b4)), some (.int (nI (i5)))]) C (D (85, .iinc 3 1, 3) (mg 46 rfl)) rfl (nI_add (j) 1) rfl ?_
                refine X_goto (tgt := 4) C (D (88, .goto (-84), 3) (mg 47 rfl)) (by decide) ?_
                refine X_los (ls' := [some (.ref (wA w (m))), some (.int (a1)), some (.int (b)), some (.int (nI (j + 1))), none, none]) (by simp [lsub]) ?_
                refine X_eq (ls' := [some (.ref (wA w (m))), some (.int (a1)), some (.int (b)), some (.int (nI (j + 1))), none, none]) (st' := []) (h' := h) (g' := g) rfl rfl rfl rfl ?_
                exact ih4 (j + 1) (b) (by omega) (by omega)
              · skip
                refine X_iload C (D (78, .iload 4, 2) (mg 42 rfl)) rfl ?_
                refine X_goto (tgt := 84) C (D (80, .goto 4, 3) (mg 43 rfl)) (by decide) ?_
                refine X_istore_n (ls' := [some (.ref (wA w (m))), some (.int (a1)), some (.int (b4)), some (.int (nI (j))), some (.int (b4)), some (.int (nI (i5)))]) C 2 (D (84, .istore_n 2, 1) (mg 45 rfl)) rfl (Nat.le_of_ble_eq_true rfl) rfl ?_
                refine X_iinc (v := nI (j + 1)) (ls' := [some (.ref (wA w (m))), some (.int (a1)), some (.int (b4)), some (.int (nI (j + 1))), some (.int (b4)), some (.int (nI (i5)))]) C (D (85, .iinc 3 1, 3) (mg 46 rfl)) rfl (nI_add (j) 1) rfl ?_
                refine X_goto (tgt := 4) C (D (88, .goto (-84), 3) (mg 47 rfl)) (by decide) ?_
                refine X_los (ls' := [some (.ref (wA w (m))), some (.int (a1)), some (.int (b4)), some (.int (nI (j + 1))), none, none]) (by simp [lsub]) ?_
                refine X_eq (ls' := [some (.ref (wA w (m))), some (.int (a1)), some (.int (b4)), some (.int (nI (j + 1))), none, none]) (st' := []) (h' := h) (g' := g) rfl rfl rfl rfl ?_
                exact ih4 (j + 1) (b4) (by omega) (by omega)
            · skip
              have q2 : (i5) < (6) := by have z : ¬ ((6) ≤ (i5)) := fun u => q2 ((nI_leI (a := (6)) (b := (i5)) (by omega) (by omega)).mpr u); omega
              refine X_iload_n C 1 (D (23, .iload_n 1, 1) (mg 14 rfl)) rfl rfl ?_
              refine X_iload_n C 3 (D (24, .iload_n 3, 1) (mg 15 rfl)) rfl rfl ?_
              refine X_cS (As := [.int (a1), .int (nI (j))]) (st := []) C (post := _) (ct_X8_has hw (a1) (nI (j)) h g) kX8_158 (by decide) (by decide) rfl rfl (Nat.le_of_ble_eq_true rfl) (D (25, .invokestatic 158, 3) (mg 16 rfl)) rfl (fun v6 H4 G5 hv6 => ?_)
              obtain ⟨rfl, rfl, rfl⟩ := hv6
              show X k w _ 28 [some (.ref (wA w (m))), some (.int (a1)), some (.int (b)), some (.int (nI (j))), some (.int (b4)), some (.int (nI (i5)))] [.int (if ((a1) >>> ((nI (j)) &&& 31)) &&& nI 1 = nI 1 then 1 else 0)] h g
              refine X_if_eq (tgt := 72) C (D (28, .ifCond .eq 44, 3) (mg 17 rfl)) (by decide) (fun q7 => ?_) (fun q7 => ?_)
              · skip
                have q7 : ¬ (((a1) >>> ((nI (j)) &&& 31)) &&& nI 1 = nI 1) := bz0.mp q7
                refine X_iload C (D (72, .iload 4, 2) (mg 39 rfl)) rfl ?_
                refine X_iload_n C 2 (D (74, .iload_n 2, 1) (mg 40 rfl)) rfl rfl ?_
                refine X_icmp_le (tgt := 83) C (D (75, .if_icmp .le 8, 3) (mg 41 rfl)) (by decide) (fun q8 => ?_) (fun q8 => ?_)
                · skip
                  refine X_iload_n C 2 (D (83, .iload_n 2, 1) (mg 44 rfl)) rfl rfl ?_
                  refine X_istore_n (ls' := [some (.ref (wA w (m))), some (.int (a1)), some (.int (b)), some (.int (nI (j))), some (.int (b4)), some (.int (nI (i5)))]) C 2 (D (84, .istore_n 2, 1) (mg 45 rfl)) rfl (Nat.le_of_ble_eq_true rfl) rfl ?_
                  refine X_iinc (v := nI (j + 1)) (ls' := [some (.ref (wA w (m))), some (.int (a1)), some (.int (b)), some (.int (nI (j + 1))), some (.int (b4)), some (.int (nI (i5)))]) C (D (85, .iinc 3 1, 3) (mg 46 rfl)) rfl (nI_add (j) 1) rfl ?_
                  refine X_goto (tgt := 4) C (D (88, .goto (-84), 3) (mg 47 rfl)) (by decide) ?_
                  refine X_los (ls' := [some (.ref (wA w (m))), some (.int (a1)), some (.int (b)), some (.int (nI (j + 1))), none, none]) (by simp [lsub]) ?_
                  refine X_eq (ls' := [some (.ref (wA w (m))), some (.int (a1)), some (.int (b)), some (.int (nI (j + 1))), none, none]) (st' := []) (h' := h) (g' := g) rfl rfl rfl rfl ?_
                  exact ih4 (j + 1) (b) (by omega) (by omega)
                · skip
                  refine X_iload C (D (78, .iload 4, 2) (mg 42 rfl)) rfl ?_
                  refine X_goto (tgt := 84) C (D (80, .goto 4, 3) (mg 43 rfl)) (by decide) ?_
                  refine X_istore_n (ls' := [some (.ref (wA w (m))), some (.int (a1)), some (.int (b4)), some (.int (nI (j))), some (.int (b4)), some (.int (nI (i5)))]) C 2 (D (84, .istore_n 2, 1) (mg 45 rfl)) rfl (Nat.le_of_ble_eq_true rfl) rfl ?_
                  refine X_iinc (v := nI (j + 1)) (ls' := [some (.ref (wA w (m))), some (.int (a1)), some (.int (b4)), some (.int (nI (j + 1))), some (.int (b4)), some (.int (nI (i5)))]) C (D (85, .iinc 3 1, 3) (mg 46 rfl)) rfl (nI_add (j) 1) rfl ?_
                  refine X_goto (tgt := 4) C (D (88, .goto (-84), 3) (mg 47 rfl)) (by decide) ?_
                  refine X_los (ls' := [some (.ref (wA w (m))), some (.int (a1)), some (.int (b4)), some (.int (nI (j + 1))), none, none]) (by simp [lsub]) ?_
                  refine X_eq (ls' := [some (.ref (wA w (m))), some (.int (a1)), some (.int (b4)), some (.int (nI (j + 1))), none, none]) (st' := []) (h' := h) (g' := g) rfl rfl rfl rfl ?_
                  exact ih4 (j + 1) (b4) (by omega) (by omega)
              · skip
                have q7 : (((a1) >>> ((nI (j)) &&& 31)) &&& nI 1 = nI 1) := bz1.mp q7
                refine X_iload C (D (31, .iload 4, 2) (mg 18 rfl)) rfl ?_
                refine X_iload_n C 1 (D (33, .iload_n 1, 1) (mg 19 rfl)) rfl rfl ?_
                refine X_iload C (D (34, .iload 5, 2) (mg 20 rfl)) rfl ?_
                refine X_cS (As := [.int (a1), .int (nI (i5))]) (st := [.int (b4)]) C (post := _) (ct_X8_has hw (a1) (nI (i5)) h g) kX8_158 (by decide) (by decide) rfl rfl (Nat.le_of_ble_eq_true rfl) (D (36, .invokestatic 158, 3) (mg 21 rfl)) rfl (fun v11 H9 G10 hv11 => ?_)
                obtain ⟨rfl, rfl, rfl⟩ := hv11
                show X k w _ 39 [some (.ref (wA w (m))), some (.int (a1)), some (.int (b)), some (.int (nI (j))), some (.int (b4)), some (.int (nI (i5)))] [.int (if ((a1) >>> ((nI (i5)) &&& 31)) &&& nI 1 = nI 1 then 1 else 0), .int (b4)] h g
                refine X_if_eq (tgt := 62) C (D (39, .ifCond .eq 23, 3) (mg 22 rfl)) (by decide) (fun q12 => ?_) (fun q12 => ?_)
                · skip
                  have q12 : ¬ (((a1) >>> ((nI (i5)) &&& 31)) &&& nI 1 = nI 1) := bz0.mp q12
                  refine X_iconst (v := nI (0)) C (D (62, .iconst 0, 1) (mg 34 rfl)) (by decide) ?_
                  refine X_iadd C (D (63, .iadd, 1) (mg 35 rfl)) ?_
                  refine X_istore (ls' := [some (.ref (wA w (m))), some (.int (a1)), some (.int (b)), some (.int (nI (j))), some (.int (b4 + (nI (0)))), some (.int (nI (i5)))]) C (D (64, .istore 4, 2) (mg 36 rfl)) (Nat.le_of_ble_eq_true rfl) rfl ?_
                  refine X_iinc (v := nI (i5 + 1)) (ls' := [some (.ref (wA w (m))), some (.int (a1)), some (.int (b)), some (.int (nI (j))), some (.int (b4 + (nI (0)))), some (.int (nI (i5 + 1)))]) C (D (66, .iinc 5 1, 3) (mg 37 rfl)) rfl (nI_add (i5) 1) rfl ?_
                  refine X_goto (tgt := 16) C (D (69, .goto (-53), 3) (mg 38 rfl)) (by decide) ?_
                  refine X_eq (ls' := [some (.ref (wA w (m))), some (.int (a1)), some (.int (b)), some (.int (nI (j))), some (.int (b4 + (nI (0)))), some (.int (nI (i5 + 1)))]) (st' := []) (h' := h) (g' := g) rfl rfl rfl rfl ?_
                  exact ih16 (i5 + 1) (b4 + (nI (0))) (by omega) (by omega)
                · skip
                  have q12 : (((a1) >>> ((nI (i5)) &&& 31)) &&& nI 1 = nI 1) := bz1.mp q12
                  refine X_aload_n C 0 (D (42, .aload_n 0, 1) (mg 23 rfl)) rfl rfl ?_
                  refine X_get (v := .ref (wA w (m + 8))) C (m) 9 (by omega) hsm rfl rfl (by decide) inX8 fX8_36 rfl (D (43, .getfield 36, 3) (mg 24 rfl)) rfl ?_
                  refine X_iload_n C 3 (D (46, .iload_n 3, 1) (mg 25 rfl)) rfl rfl ?_
                  refine X_iald (v := h (m + 8) (j)) C (m + 8) (by omega) hs8 (vp_in_nI (by omega) (by omega)) (D (47, .iaload, 1) (mg 26 rfl)) (by rw [nI_clamp (by omega)]) ?_
                  refine X_aload_n C 0 (D (48, .aload_n 0, 1) (mg 27 rfl)) rfl rfl ?_
                  refine X_get (v := .ref (wA w (m + 8))) C (m) 9 (by omega) hsm rfl rfl (by decide) inX8 fX8_36 rfl (D (49, .getfield 36, 3) (mg 28 rfl)) rfl ?_
                  refine X_iload C (D (52, .iload 5, 2) (mg 29 rfl)) rfl ?_
                  refine X_iald (v := h (m + 8) (i5)) C (m + 8) (by omega) hs8 (vp_in_nI (by omega) (by omega)) (D (54, .iaload, 1) (mg 30 rfl)) (by rw [nI_clamp (by omega)]) ?_
                  refine X_icmp_ne (tgt := 62) C (D (55, .if_icmp .ne 7, 3) (mg 31 rfl)) (by decide) (fun q13 => ?_) (fun q13 => ?_)
                  · skip
                    refine X_iconst (v := nI (0)) C (D (62, .iconst 0, 1) (mg 34 rfl)) (by decide) ?_
                    refine X_iadd C (D (63, .iadd, 1) (mg 35 rfl)) ?_
                    refine X_istore (ls' := [some (.ref (wA w (m))), some (.int (a1)), some (.int (b)), some (.int (nI (j))), some (.int (b4 + (nI (0)))), some (.int (nI (i5)))]) C (D (64, .istore 4, 2) (mg 36 rfl)) (Nat.le_of_ble_eq_true rfl) rfl ?_
                    refine X_iinc (v := nI (i5 + 1)) (ls' := [some (.ref (wA w (m))), some (.int (a1)), some (.int (b)), some (.int (nI (j))), some (.int (b4 + (nI (0)))), some (.int (nI (i5 + 1)))]) C (D (66, .iinc 5 1, 3) (mg 37 rfl)) rfl (nI_add (i5) 1) rfl ?_
                    refine X_goto (tgt := 16) C (D (69, .goto (-53), 3) (mg 38 rfl)) (by decide) ?_
                    refine X_eq (ls' := [some (.ref (wA w (m))), some (.int (a1)), some (.int (b)), some (.int (nI (j))), some (.int (b4 + (nI (0)))), some (.int (nI (i5 + 1)))]) (st' := []) (h' := h) (g' := g) rfl rfl rfl rfl ?_
                    exact ih16 (i5 + 1) (b4 + (nI (0))) (by omega) (by omega)
                  · skip
                    refine X_iconst (v := nI (1)) C (D (58, .iconst 1, 1) (mg 32 rfl)) (by decide) ?_
                    refine X_goto (tgt := 63) C (D (59, .goto 4, 3) (mg 33 rfl)) (by decide) ?_
                    refine X_iadd C (D (63, .iadd, 1) (mg 35 rfl)) ?_
                    refine X_istore (ls' := [some (.ref (wA w (m))), some (.int (a1)), some (.int (b)), some (.int (nI (j))), some (.int (b4 + (nI (1)))), some (.int (nI (i5)))]) C (D (64, .istore 4, 2) (mg 36 rfl)) (Nat.le_of_ble_eq_true rfl) rfl ?_
                    refine X_iinc (v := nI (i5 + 1)) (ls' := [some (.ref (wA w (m))), some (.int (a1)), some (.int (b)), some (.int (nI (j))), some (.int (b4 + (nI (1)))), some (.int (nI (i5 + 1)))]) C (D (66, .iinc 5 1, 3) (mg 37 rfl)) rfl (nI_add (i5) 1) rfl ?_
                    refine X_goto (tgt := 16) C (D (69, .goto (-53), 3) (mg 38 rfl)) (by decide) ?_
                    refine X_eq (ls' := [some (.ref (wA w (m))), some (.int (a1)), some (.int (b)), some (.int (nI (j))), some (.int (b4 + (nI (1)))), some (.int (nI (i5 + 1)))]) (st' := []) (h' := h) (g' := g) rfl rfl rfl rfl ?_
                    exact ih16 (i5 + 1) (b4 + (nI (1))) (by omega) (by omega)
        refine X_eq (ls' := [some (.ref (wA w (m))), some (.int (a1)), some (.int (b)), some (.int (nI (j))), some (.int (nI (0))), some (.int (nI (0)))]) (st' := []) (h' := h) (g' := g) rfl rfl rfl rfl ?_
        exact lp16 _ (0) (nI (0)) (by omega) (Nat.le_refl _)
  refine X_eq (ls' := [some (.ref (wA w (m))), some (.int (a1)), some (.int (nI (0))), some (.int (nI (0))), none, none]) (st' := []) (h' := h) (g' := g) rfl rfl rfl rfl ?_
  exact lp4 _ (0) (nI (0)) (by omega) (Nat.le_refl _)
set_option maxHeartbeats 4000000 in
set_option maxRecDepth 100000 in
theorem ct_X8_tell {l : Launch} {w : Kw} (hw : wOk w) {m : Nat} (hM : shM w m) (a1 : Int32) (h : xI) (g : xJ) (hI : mOk h m) : Ct l w yX8_tell cX8_tell 8 (some .int) 2 51 [.ref (wA w (m)), .int (a1)] h g (pQ (mW m h)) := by
  refine Ct_of (ls := [some (.ref (wA w (m))), some (.int (a1)), none, none, none, none, none, none]) (by decide) hw (Nat.le_of_ble_eq_true rfl) rfl (fun k hkl C => ?_)
  have C : Cx k w cX8_tell RX8 8 (some .int) 2 51 := C
  have D := dtX8_tell
  subst hkl
  have hM0 := hM
  obtain ⟨hm, hsm, hs1, hs2, hs3, hs4, hs5, hs6, hs7, hs8, hs9, hs10, hs11⟩ := hM
  have hM := hM0
  have hI0 := hI
  obtain ⟨⟨⟨nu, hnu, eu⟩, ⟨c0, hc0, hat⟩, hpl⟩, ⟨⟨ns, hns, hse⟩, ⟨nm, hnm, hma⟩⟩, hK, ⟨nt, hnt, htx⟩⟩ := hI
  have hI := hI0
  refine X_iload_n C 1 (D (0, .iload_n 1, 1) (mg 0 rfl)) rfl rfl ?_
  refine X_cS (As := [.int (a1)]) (st := []) C (post := _) (ct_X8_isCell hw (a1) h g) kX8_72 (by decide) (by decide) rfl rfl (Nat.le_of_ble_eq_true rfl) (D (1, .invokestatic 72, 3) (mg 1 rfl)) rfl (fun v3 H1 G2 hv3 => ?_)
  obtain ⟨rfl, rfl, rfl⟩ := hv3
  show X k w _ 4 [some (.ref (wA w (m))), some (.int (a1)), none, none, none, none, none, none] [.int (if 0 ≤ (a1).toInt ∧ (a1).toInt < 25 then 1 else 0)] h g
  refine X_if_ne (tgt := 14) C (D (4, .ifCond .ne 10, 3) (mg 2 rfl)) (by decide) (fun q4 => ?_) (fun q4 => ?_)
  · skip
    have q4 : (0 ≤ (a1).toInt ∧ (a1).toInt < 25) := bz1.mp q4
    refine X_aload_n C 0 (D (14, .aload_n 0, 1) (mg 7 rfl)) rfl rfl ?_
    refine X_iload_n C 1 (D (15, .iload_n 1, 1) (mg 8 rfl)) rfl rfl ?_
    refine X_cV (As := [.int (a1)]) (st := []) C (post := _) (m) (by omega) hsm rfl (ct_X8_saidIn hw hM (a1) (n := ns) (by omega) h g (hse)) kX8_188 (by decide) (by decide) rfl rfl (Nat.le_of_ble_eq_true rfl) (D (16, .invokevirtual 188, 3) (mg 9 rfl)) rfl (fun v7 H5 G6 hv7 => ?_)
    obtain ⟨rfl, rfl, rfl⟩ := hv7
    show X k w _ 19 [some (.ref (wA w (m))), some (.int (a1)), none, none, none, none, none, none] [.int (dpB (fun kd => ¬ alS h (m + 1) (a1) kd ns = 0) 6)] h g
    refine X_istore_n (ls' := [some (.ref (wA w (m))), some (.int (a1)), some (.int (dpB (fun kd => ¬ alS h (m + 1) (a1) kd ns = 0) 6)), none, none, none, none, none]) C 2 (D (19, .istore_n 2, 1) (mg 10 rfl)) rfl (Nat.le_of_ble_eq_true rfl) rfl ?_
    refine X_iconst (v := (-1 : Int32)) C (D (20, .iconst (-1), 1) (mg 11 rfl)) (by decide) ?_
    refine X_istore_n (ls' := [some (.ref (wA w (m))), some (.int (a1)), some (.int (dpB (fun kd => ¬ alS h (m + 1) (a1) kd ns = 0) 6)), some (.int ((-1 : Int32))), none, none, none, none]) C 3 (D (21, .istore_n 3, 1) (mg 12 rfl)) rfl (Nat.le_of_ble_eq_true rfl) rfl ?_
    refine X_ldc C (D (22, .ldc 162, 2) (mg 13 rfl)) vX8_162 ?_
    refine X_ti (y := nI (1000000)) (by decide) ?_
    refine X_istore (ls' := [some (.ref (wA w (m))), some (.int (a1)), some (.int (dpB (fun kd => ¬ alS h (m + 1) (a1) kd ns = 0) 6)), some (.int ((-1 : Int32))), some (.int (nI (1000000))), none, none, none]) C (D (24, .istore 4, 2) (mg 14 rfl)) (Nat.le_of_ble_eq_true rfl) rfl ?_
    refine X_iconst (v := nI (0)) C (D (26, .iconst 0, 1) (mg 15 rfl)) (by decide) ?_
    refine X_istore (ls' := [some (.ref (wA w (m))), some (.int (a1)), some (.int (dpB (fun kd => ¬ alS h (m + 1) (a1) kd ns = 0) 6)), some (.int ((-1 : Int32))), some (.int (nI (1000000))), some (.int (nI (0))), none, none]) C (D (27, .istore 5, 2) (mg 16 rfl)) (Nat.le_of_ble_eq_true rfl) rfl ?_
    have lp29 : ∀ (nn29 : Nat) (j : Nat) (b3 : Int32) (b4 : Int32) (hp29 : xI) (gp29 : xJ), (j ≤ 10) → (mW m h hp29) → 11 - j ≤ nn29 → X k w (Zq k w (pQ (mW m h))) 29 [some (.ref (wA w (m))), some (.int (a1)), some (.int (dpB (fun kd => ¬ alS h (m + 1) (a1) kd ns = 0) 6)), some (.int (b3)), some (.int (b4)), some (.int (nI (j))), none, none] [] hp29 gp29 := by
      intro nn29
      induction nn29 with
      | zero => intro j b3 b4 hp29 gp29 hc29_0 hc29_1 hz; exact absurd hz (by omega)
      | succ nn29 ih29 =>
        intro j b3 b4 hp29 gp29 hc29_0 hc29_1 hz29
        obtain ⟨⟨u8, hu8, eu8⟩, ⟨c9, hc9, ec9⟩, -⟩ := (hc29_1).2
        refine X_iload C (D (29, .iload 5, 2) (mg 17 rfl)) rfl ?_
        refine X_bipush (v := nI (10)) C (D (31, .bipush 10, 2) (mg 18 rfl)) (by decide) ?_
        refine X_icmp_ge (tgt := 137) C (D (33, .if_icmp .ge 104, 3) (mg 19 rfl)) (by decide) (fun q10 => ?_) (fun q10 => ?_)
        · skip
          have q10 : (j) ≥ (10) := by have z := (nI_leI (a := (10)) (b := (j)) (by omega) (by omega)).mp q10; omega
          refine X_iload_n C 3 (D (137, .iload_n 3, 1) (mg 68 rfl)) rfl rfl ?_
          exact X_iret C (D (138, .ireturn, 1) (mg 69 rfl)) ⟨⟨_, rfl⟩, hc29_1⟩
        · skip
          have q10 : (j) < (10) := by have z : ¬ ((10) ≤ (j)) := fun u => q10 ((nI_leI (a := (10)) (b := (j)) (by omega) (by omega)).mpr u); omega
          refine X_iload_n C 2 (D (36, .iload_n 2, 1) (mg 20 rfl)) rfl rfl ?_
          refine X_if_le (tgt := 137) C (D (37, .ifCond .le 100, 3) (mg 21 rfl)) (by decide) (fun q11 => ?_) (fun q11 => ?_)
          · skip
            refine X_iload_n C 3 (D (137, .iload_n 3, 1) (mg 68 rfl)) rfl rfl ?_
            exact X_iret C (D (138, .ireturn, 1) (mg 69 rfl)) ⟨⟨_, rfl⟩, hc29_1⟩
          · skip
            refine X_iconst (v := nI (0)) C (D (40, .iconst 0, 1) (mg 22 rfl)) (by decide) ?_
            refine X_istore (ls' := [some (.ref (wA w (m))), some (.int (a1)), some (.int (dpB (fun kd => ¬ alS h (m + 1) (a1) kd ns = 0) 6)), some (.int (b3)), some (.int (b4)), some (.int (nI (j))), some (.int (nI (0))), none]) C (D (41, .istore 6, 2) (mg 23 rfl)) (Nat.le_of_ble_eq_true rfl) rfl ?_
            have lp43 : ∀ (nn43 : Nat) (i6_ : Nat) (b3 : Int32) (b4 : Int32) (hp43 : xI) (gp43 : xJ), (i6_ ≤ 21) → (mW m h hp43) → 22 - i6_ ≤ nn43 → X k w (Zq k w (pQ (mW m h))) 43 [some (.ref (wA w (m))), some (.int (a1)), some (.int (dpB (fun kd => ¬ alS h (m + 1) (a1) kd ns = 0) 6)), some (.int (b3)), some (.int (b4)), some (.int (nI (j))), some (.int (nI (i6_))), none] [] hp43 gp43 := by
              intro nn43
              induction nn43 with
              | zero => intro i6_ b3 b4 hp43 gp43 hc43_0 hc43_1 hz; exact absurd hz (by omega)
              | succ nn43 ih43 =>
                intro i6_ b3 b4 hp43 gp43 hc43_0 hc43_1 hz43
                obtain ⟨⟨u12, hu12, eu12⟩, ⟨c13, hc13, ec13⟩, -⟩ := (hc43_1).2
                refine X_iload C (D (43, .iload 6, 2) (mg 24 rfl)) rfl ?_
                refine X_bipush (v := nI (20)) C (D (45, .bipush 20, 2) (mg 25 rfl)) (by decide) ?_
                refine X_icmp_gt (tgt := 131) C (D (47, .if_icmp .gt 84, 3) (mg 26 rfl)) (by decide) (fun q14 => ?_) (fun q14 => ?_)
                · skip
                  have q14 : (i6_) > (20) := by have z := (nI_ltI (a := (20)) (b := (i6_)) (by omega) (by omega)).mp q14; omega
                  refine X_iinc (v := nI (j + 1)) (ls' := [some (.ref (wA w (m))), some (.int (a1)), some (.int (dpB (fun kd => ¬ alS h (m + 1) (a1) kd ns = 0) 6)), some (.int (b3)), some (.int (b4)), some (.int (nI (j + 1))), some (.int (nI (i6_))), none]) C (D (131, .iinc 5 1, 3) (mg 66 rfl)) rfl (nI_add (j) 1) rfl ?_
                  refine X_goto (tgt := 29) C (D (134, .goto (-105), 3) (mg 67 rfl)) (by decide) ?_
                  refine X_los (ls' := [some (.ref (wA w (m))), some (.int (a1)), some (.int (dpB (fun kd => ¬ alS h (m + 1) (a1) kd ns = 0) 6)), some (.int (b3)), some (.int (b4)), some (.int (nI (j + 1))), none, none]) (by simp [lsub]) ?_
                  refine X_eq (ls' := [some (.ref (wA w (m))), some (.int (a1)), some (.int (dpB (fun kd => ¬ alS h (m + 1) (a1) kd ns = 0) 6)), some (.int (b3)), some (.int (b4)), some (.int (nI (j + 1))), none, none]) (st' := []) (h' := hp43) (g' := gp43) rfl rfl rfl rfl ?_
                  exact ih29 (j + 1) (b3) (b4) (hp43) (gp43) (by omega) hc43_1 (by omega)
                · skip
                  have q14 : (i6_) ≤ (20) := by have z : ¬ ((20) < (i6_)) := fun u => q14 ((nI_ltI (a := (20)) (b := (i6_)) (by omega) (by omega)).mpr u); omega
                  refine X_iconst (v := nI (0)) C (D (50, .iconst 0, 1) (mg 27 rfl)) (by decide) ?_
                  refine X_istore (ls' := [some (.ref (wA w (m))), some (.int (a1)), some (.int (dpB (fun kd => ¬ alS h (m + 1) (a1) kd ns = 0) 6)), some (.int (b3)), some (.int (b4)), some (.int (nI (j))), some (.int (nI (i6_))), some (.int (nI (0)))]) C (D (51, .istore 7, 2) (mg 28 rfl)) (Nat.le_of_ble_eq_true rfl) rfl ?_
                  have lp53 : ∀ (nn53 : Nat) (i7 : Nat) (hp53 : xI) (gp53 : xJ), (i7 ≤ 6) → (mW m h hp53) → 7 - i7 ≤ nn53 → X k w (Zq k w (pQ (mW m h))) 53 [some (.ref (wA w (m))), some (.int (a1)), some (.int (dpB (fun kd => ¬ alS h (m + 1) (a1) kd ns = 0) 6)), some (.int (b3)), some (.int (b4)), some (.int (nI (j))), some (.int (nI (i6_))), some (.int (nI (i7)))] [] hp53 gp53 := by
                    intro nn53
                    induction nn53 with
                    | zero => intro i7 hp53 gp53 hc53_0 hc53_1 hz; exact absurd hz (by omega)
                    | succ nn53 ih53 =>
                      intro i7 hp53 gp53 hc53_0 hc53_1 hz53
                      obtain ⟨⟨u15, hu15, eu15⟩, ⟨c16, hc16, ec16⟩, -⟩ := (hc53_1).2
                      refine X_iload C (D (53, .iload 7, 2) (mg 29 rfl)) rfl ?_
                      refine X_bipush (v := nI (6)) C (D (55, .bipush 6, 2) (mg 30 rfl)) (by decide) ?_
                      refine X_icmp_ge (tgt := 82) C (D (57, .if_icmp .ge 25, 3) (mg 31 rfl)) (by decide) (fun q17 => ?_) (fun q17 => ?_)
                      · skip
                        have q17 : (i7) ≥ (6) := by have z := (nI_leI (a := (6)) (b := (i7)) (by omega) (by omega)).mp q17; omega
                        refine X_aload_n C 0 (D (82, .aload_n 0, 1) (mg 42 rfl)) rfl rfl ?_
                        refine X_iload_n C 2 (D (83, .iload_n 2, 1) (mg 43 rfl)) rfl rfl ?_
                        refine X_cV (As := [.int (dpB (fun kd => ¬ alS h (m + 1) (a1) kd ns = 0) 6)]) (st := []) C (post := _) (m) (by omega) hsm rfl (ct_X8_mostAlike hw hM (dpB (fun kd => ¬ alS h (m + 1) (a1) kd ns = 0) 6) hp53 gp53) kX8_191 (by decide) (by decide) rfl rfl (Nat.le_of_ble_eq_true rfl) (D (84, .invokevirtual 191, 3) (mg 44 rfl)) rfl (fun v20 H18 G19 hv20 => ?_)
                        obtain ⟨⟨y21, rfl⟩, rfl, rfl⟩ := hv20
                        show X k w _ 87 [some (.ref (wA w (m))), some (.int (a1)), some (.int (dpB (fun kd => ¬ alS h (m + 1) (a1) kd ns = 0) 6)), some (.int (b3)), some (.int (b4)), some (.int (nI (j))), some (.int (nI (i6_))), some (.int (nI (i7)))] [.int (y21)] hp53 gp53
                        refine X_istore (ls' := [some (.ref (wA w (m))), some (.int (a1)), some (.int (dpB (fun kd => ¬ alS h (m + 1) (a1) kd ns = 0) 6)), some (.int (b3)), some (.int (b4)), some (.int (nI (j))), some (.int (nI (i6_))), some (.int (y21))]) C (D (87, .istore 7, 2) (mg 45 rfl)) (Nat.le_of_ble_eq_true rfl) rfl ?_
                        refine X_iload C (D (89, .iload 7, 2) (mg 46 rfl)) rfl ?_
                        refine X_iload C (D (91, .iload 4, 2) (mg 47 rfl)) rfl ?_
                        refine X_icmp_ge (tgt := 107) C (D (93, .if_icmp .ge 14, 3) (mg 48 rfl)) (by decide) (fun q22 => ?_) (fun q22 => ?_)
                        · skip
                          refine X_iload_n C 3 (D (107, .iload_n 3, 1) (mg 55 rfl)) rfl rfl ?_
                          refine X_istore_n (ls' := [some (.ref (wA w (m))), some (.int (a1)), some (.int (dpB (fun kd => ¬ alS h (m + 1) (a1) kd ns = 0) 6)), some (.int (b3)), some (.int (b4)), some (.int (nI (j))), some (.int (nI (i6_))), some (.int (y21))]) C 3 (D (108, .istore_n 3, 1) (mg 56 rfl)) rfl (Nat.le_of_ble_eq_true rfl) rfl ?_
                          refine X_iload C (D (109, .iload 7, 2) (mg 57 rfl)) rfl ?_
                          refine X_iload C (D (111, .iload 4, 2) (mg 58 rfl)) rfl ?_
                          refine X_icmp_ge (tgt := 121) C (D (113, .if_icmp .ge 8, 3) (mg 59 rfl)) (by decide) (fun q23 => ?_) (fun q23 => ?_)
                          · skip
                            refine X_iload C (D (121, .iload 4, 2) (mg 62 rfl)) rfl ?_
                            refine X_istore (ls' := [some (.ref (wA w (m))), some (.int (a1)), some (.int (dpB (fun kd => ¬ alS h (m + 1) (a1) kd ns = 0) 6)), some (.int (b3)), some (.int (b4)), some (.int (nI (j))), some (.int (nI (i6_))), some (.int (y21))]) C (D (123, .istore 4, 2) (mg 63 rfl)) (Nat.le_of_ble_eq_true rfl) rfl ?_
                            refine X_iinc (v := nI (i6_ + 1)) (ls' := [some (.ref (wA w (m))), some (.int (a1)), some (.int (dpB (fun kd => ¬ alS h (m + 1) (a1) kd ns = 0) 6)), some (.int (b3)), some (.int (b4)), some (.int (nI (j))), some (.int (nI (i6_ + 1))), some (.int (y21))]) C (D (125, .iinc 6 1, 3) (mg 64 rfl)) rfl (nI_add (i6_) 1) rfl ?_
                            refine X_goto (tgt := 43) C (D (128, .goto (-85), 3) (mg 65 rfl)) (by decide) ?_
                            refine X_los (ls' := [some (.ref (wA w (m))), some (.int (a1)), some (.int (dpB (fun kd => ¬ alS h (m + 1) (a1) kd ns = 0) 6)), some (.int (b3)), some (.int (b4)), some (.int (nI (j))), some (.int (nI (i6_ + 1))), none]) (by simp [lsub]) ?_
                            refine X_eq (ls' := [some (.ref (wA w (m))), some (.int (a1)), some (.int (dpB (fun kd => ¬ alS h (m + 1) (a1) kd ns = 0) 6)), some (.int (b3)), some (.int (b4)), some (.int (nI (j))), some (.int (nI (i6_ + 1))), none]) (st' := []) (h' := hp53) (g' := gp53) rfl rfl rfl rfl ?_
                            exact ih43 (i6_ + 1) (b3) (b4) (hp53) (gp53) (by omega) hc53_1 (by omega)
                          · skip
                            refine X_iload C (D (116, .iload 7, 2) (mg 60 rfl)) rfl ?_
                            refine X_goto (tgt := 123) C (D (118, .goto 5, 3) (mg 61 rfl)) (by decide) ?_
                            refine X_istore (ls' := [some (.ref (wA w (m))), some (.int (a1)), some (.int (dpB (fun kd => ¬ alS h (m + 1) (a1) kd ns = 0) 6)), some (.int (b3)), some (.int (y21)), some (.int (nI (j))), some (.int (nI (i6_))), some (.int (y21))]) C (D (123, .istore 4, 2) (mg 63 rfl)) (Nat.le_of_ble_eq_true rfl) rfl ?_
                            refine X_iinc (v := nI (i6_ + 1)) (ls' := [some (.ref (wA w (m))), some (.int (a1)), some (.int (dpB (fun kd => ¬ alS h (m + 1) (a1) kd ns = 0) 6)), some (.int (b3)), some (.int (y21)), some (.int (nI (j))), some (.int (nI (i6_ + 1))), some (.int (y21))]) C (D (125, .iinc 6 1, 3) (mg 64 rfl)) rfl (nI_add (i6_) 1) rfl ?_
                            refine X_goto (tgt := 43) C (D (128, .goto (-85), 3) (mg 65 rfl)) (by decide) ?_
                            refine X_los (ls' := [some (.ref (wA w (m))), some (.int (a1)), some (.int (dpB (fun kd => ¬ alS h (m + 1) (a1) kd ns = 0) 6)), some (.int (b3)), some (.int (y21)), some (.int (nI (j))), some (.int (nI (i6_ + 1))), none]) (by simp [lsub]) ?_
                            refine X_eq (ls' := [some (.ref (wA w (m))), some (.int (a1)), some (.int (dpB (fun kd => ¬ alS h (m + 1) (a1) kd ns = 0) 6)), some (.int (b3)), some (.int (y21)), some (.int (nI (j))), some (.int (nI (i6_ + 1))), none]) (st' := []) (h' := hp53) (g' := gp53) rfl rfl rfl rfl ?_
                            exact ih43 (i6_ + 1) (b3) (y21) (hp53) (gp53) (by omega) hc53_1 (by omega)
                        · skip
                          refine X_bipush (v := nI (100)) C (D (96, .bipush 100, 2) (mg 49 rfl)) (by decide) ?_
                          refine X_iload C (D (98, .iload 5, 2) (mg 50 rfl)) rfl ?_
                          refine X_imul C (D (100, .imul, 1) (mg 51 rfl)) ?_
                          refine X_ti (y := nI ((100) * (j))) (pk_mul (100) (j)) ?_
                          refine X_iload C (D (101, .iload 6, 2) (mg 52 rfl)) rfl ?_
                          refine X_iadd C (D (103, .iadd, 1) (mg 53 rfl)) ?_
                          refine X_ti (y := nI ((100) * (j) + i6_)) (nI_add ((100) * (j)) (i6_)) ?_
                          refine X_goto (tgt := 108) C (D (104, .goto 4, 3) (mg 54 rfl)) (by decide) ?_
                          refine X_istore_n (ls' := [some (.ref (wA w (m))), some (.int (a1)), some (.int (dpB (fun kd => ¬ alS h (m + 1) (a1) kd ns = 0) 6)), some (.int (nI ((100) * (j) + i6_))), some (.int (b4)), some (.int (nI (j))), some (.int (nI (i6_))), some (.int (y21))]) C 3 (D (108, .istore_n 3, 1) (mg 56 rfl)) rfl (Nat.le_of_ble_eq_true rfl) rfl ?_
                          refine X_iload C (D (109, .iload 7, 2) (mg 57 rfl)) rfl ?_
                          refine X_iload C (D (111, .iload 4, 2) (mg 58 rfl)) rfl ?_
                          refine X_icmp_ge (tgt := 121) C (D (113, .if_icmp .ge 8, 3) (mg 59 rfl)) (by decide) (fun q24 => ?_) (fun q24 => ?_)
                          · skip
                            refine X_iload C (D (121, .iload 4, 2) (mg 62 rfl)) rfl ?_
                            refine X_istore (ls' := [some (.ref (wA w (m))), some (.int (a1)), some (.int (dpB (fun kd => ¬ alS h (m + 1) (a1) kd ns = 0) 6)), some (.int (nI ((100) * (j) + i6_))), some (.int (b4)), some (.int (nI (j))), some (.int (nI (i6_))), some (.int (y21))]) C (D (123, .istore 4, 2) (mg 63 rfl)) (Nat.le_of_ble_eq_true rfl) rfl ?_
                            refine X_iinc (v := nI (i6_ + 1)) (ls' := [some (.ref (wA w (m))), some (.int (a1)), some (.int (dpB (fun kd => ¬ alS h (m + 1) (a1) kd ns = 0) 6)), some (.int (nI ((100) * (j) + i6_))), some (.int (b4)), some (.int (nI (j))), some (.int (nI (i6_ + 1))), some (.int (y21))]) C (D (125, .iinc 6 1, 3) (mg 64 rfl)) rfl (nI_add (i6_) 1) rfl ?_
                            refine X_goto (tgt := 43) C (D (128, .goto (-85), 3) (mg 65 rfl)) (by decide) ?_
                            refine X_los (ls' := [some (.ref (wA w (m))), some (.int (a1)), some (.int (dpB (fun kd => ¬ alS h (m + 1) (a1) kd ns = 0) 6)), some (.int (nI ((100) * (j) + i6_))), some (.int (b4)), some (.int (nI (j))), some (.int (nI (i6_ + 1))), none]) (by simp [lsub]) ?_
                            refine X_eq (ls' := [some (.ref (wA w (m))), some (.int (a1)), some (.int (dpB (fun kd => ¬ alS h (m + 1) (a1) kd ns = 0) 6)), some (.int (nI ((100) * (j) + i6_))), some (.int (b4)), some (.int (nI (j))), some (.int (nI (i6_ + 1))), none]) (st' := []) (h' := hp53) (g' := gp53) rfl rfl rfl rfl ?_
                            exact ih43 (i6_ + 1) (nI ((100) * (j) + i6_)) (b4) (hp53) (gp53) (by omega) hc53_1 (by omega)
                          · skip
                            refine X_iload C (D (116, .iload 7, 2) (mg 60 rfl)) rfl ?_
                            refine X_goto (tgt := 123) C (D (118, .goto 5, 3) (mg 61 rfl)) (by decide) ?_
                            refine X_istore (ls' := [some (.ref (wA w (m))), some (.int (a1)), some (.int (dpB (fun kd => ¬ alS h (m + 1) (a1) kd ns = 0) 6)), some (.int (nI ((100) * (j) + i6_))), some (.int (y21)), some (.int (nI (j))), some (.int (nI (i6_))), some (.int (y21))]) C (D (123, .istore 4, 2) (mg 63 rfl)) (Nat.le_of_ble_eq_true rfl) rfl ?_
                            refine X_iinc (v := nI (i6_ + 1)) (ls' := [some (.ref (wA w (m))), some (.int (a1)), some (.int (dpB (fun kd => ¬ alS h (m + 1) (a1) kd ns = 0) 6)), some (.int (nI ((100) * (j) + i6_))), some (.int (y21)), some (.int (nI (j))), some (.int (nI (i6_ + 1))), some (.int (y21))]) C (D (125, .iinc 6 1, 3) (mg 64 rfl)) rfl (nI_add (i6_) 1) rfl ?_
                            refine X_goto (tgt := 43) C (D (128, .goto (-85), 3) (mg 65 rfl)) (by decide) ?_
                            refine X_los (ls' := [some (.ref (wA w (m))), some (.int (a1)), some (.int (dpB (fun kd => ¬ alS h (m + 1) (a1) kd ns = 0) 6)), some (.int (nI ((100) * (j) + i6_))), some (.int (y21)), some (.int (nI (j))), some (.int (nI (i6_ + 1))), none]) (by simp [lsub]) ?_
                            refine X_eq (ls' := [some (.ref (wA w (m))), some (.int (a1)), some (.int (dpB (fun kd => ¬ alS h (m + 1) (a1) kd ns = 0) 6)), some (.int (nI ((100) * (j) + i6_))), some (.int (y21)), some (.int (nI (j))), some (.int (nI (i6_ + 1))), none]) (st' := []) (h' := hp53) (g' := gp53) rfl rfl rfl rfl ?_
                            exact ih43 (i6_ + 1) (nI ((100) * (j) + i6_)) (y21) (hp53) (gp53) (by omega) hc53_1 (by omega)
                      · skip
                        have q17 : (i7) < (6) := by have z : ¬ ((6) ≤ (i7)) := fun u => q17 ((nI_leI (a := (6)) (b := (i7)) (by omega) (by omega)).mpr u); omega
                        refine X_aload_n C 0 (D (60, .aload_n 0, 1) (mg 32 rfl)) rfl rfl ?_
                        refine X_get (v := .ref (wA w (m + 8))) C (m) 9 (by omega) hsm rfl rfl (by decide) inX8 fX8_36 rfl (D (61, .getfield 36, 3) (mg 33 rfl)) rfl ?_
                        refine X_iload C (D (64, .iload 7, 2) (mg 34 rfl)) rfl ?_
                        refine X_iload C (D (66, .iload 7, 2) (mg 35 rfl)) rfl ?_
                        refine X_iload C (D (68, .iload 5, 2) (mg 36 rfl)) rfl ?_
                        refine X_iload C (D (70, .iload 6, 2) (mg 37 rfl)) rfl ?_
                        refine X_cS (As := [.int (nI (i7)), .int (nI (j)), .int (nI (i6_))]) (st := [.int (nI (i7)), .ref (wA w (m + 8))]) C (post := _) (ct_X8_highAs hw (nI (i7)) (nI (j)) (nI (i6_)) hp53 gp53) kX8_96 (by decide) (by decide) rfl rfl (Nat.le_of_ble_eq_true rfl) (D (72, .invokestatic 96, 3) (mg 38 rfl)) rfl (fun v27 H25 G26 hv27 => ?_)
                        obtain ⟨rfl, rfl, rfl⟩ := hv27
                        show X k w _ 75 [some (.ref (wA w (m))), some (.int (a1)), some (.int (dpB (fun kd => ¬ alS h (m + 1) (a1) kd ns = 0) 6)), some (.int (b3)), some (.int (b4)), some (.int (nI (j))), some (.int (nI (i6_))), some (.int (nI (i7)))] [.int (hiA (nI (i7)) (nI (j)) (nI (i6_))), .int (nI (i7)), .ref (wA w (m + 8))] hp53 gp53
                        refine X_iast (j := i7) C (m + 8) (by omega) hs8 (vp_in_nI (by omega) (by omega)) (D (75, .iastore, 1) (mg 39 rfl)) (nI_clamp (by omega)) ?_
                        refine X_iinc (v := nI (i7 + 1)) (ls' := [some (.ref (wA w (m))), some (.int (a1)), some (.int (dpB (fun kd => ¬ alS h (m + 1) (a1) kd ns = 0) 6)), some (.int (b3)), some (.int (b4)), some (.int (nI (j))), some (.int (nI (i6_))), some (.int (nI (i7 + 1)))]) C (D (76, .iinc 7 1, 3) (mg 40 rfl)) rfl (nI_add (i7) 1) rfl ?_
                        refine X_goto (tgt := 53) C (D (79, .goto (-26), 3) (mg 41 rfl)) (by decide) ?_
                        refine X_eq (ls' := [some (.ref (wA w (m))), some (.int (a1)), some (.int (dpB (fun kd => ¬ alS h (m + 1) (a1) kd ns = 0) 6)), some (.int (b3)), some (.int (b4)), some (.int (nI (j))), some (.int (nI (i6_))), some (.int (nI (i7 + 1)))]) (st' := []) (h' := (u2 hp53 (m + 8) (i7) (hiA (nI (i7)) (nI (j)) (nI (i6_))))) (g' := gp53) rfl rfl rfl rfl ?_
                        exact ih53 (i7 + 1) ((u2 hp53 (m + 8) (i7) (hiA (nI (i7)) (nI (j)) (nI (i6_))))) (gp53) (by omega) ⟨fun q i z0 => by have z := z0; unfold SM at z; rw [u2_ne _ _ _ _ (by omega)]; exact (hc53_1).1 q i z0, rU_k (fun i => by rw [u2_ne _ _ _ _ (by omega)]) (hc53_1).2⟩ (by omega)
                  refine X_eq (ls' := [some (.ref (wA w (m))), some (.int (a1)), some (.int (dpB (fun kd => ¬ alS h (m + 1) (a1) kd ns = 0) 6)), some (.int (b3)), some (.int (b4)), some (.int (nI (j))), some (.int (nI (i6_))), some (.int (nI (0)))]) (st' := []) (h' := hp43) (g' := gp43) rfl rfl rfl rfl ?_
                  exact lp53 _ (0) (hp43) (gp43) (by omega) hc43_1 (Nat.le_refl _)
            refine X_eq (ls' := [some (.ref (wA w (m))), some (.int (a1)), some (.int (dpB (fun kd => ¬ alS h (m + 1) (a1) kd ns = 0) 6)), some (.int (b3)), some (.int (b4)), some (.int (nI (j))), some (.int (nI (0))), none]) (st' := []) (h' := hp29) (g' := gp29) rfl rfl rfl rfl ?_
            exact lp43 _ (0) (b3) (b4) (hp29) (gp29) (by omega) hc29_1 (Nat.le_refl _)
    refine X_eq (ls' := [some (.ref (wA w (m))), some (.int (a1)), some (.int (dpB (fun kd => ¬ alS h (m + 1) (a1) kd ns = 0) 6)), some (.int ((-1 : Int32))), some (.int (nI (1000000))), some (.int (nI (0))), none, none]) (st' := []) (h' := h) (g' := g) rfl rfl rfl rfl ?_
    exact lp29 _ (0) ((-1 : Int32)) (nI (1000000)) (h) (g) (by omega) (mW_r hI) (Nat.le_refl _)
  · skip
    have q4 : ¬ (0 ≤ (a1).toInt ∧ (a1).toInt < 25) := bz0.mp q4
    refine X_aload_n C 0 (D (7, .aload_n 0, 1) (mg 3 rfl)) rfl rfl ?_
    refine X_bipush (v := (-2 : Int32)) C (D (8, .bipush (-2), 2) (mg 4 rfl)) (by decide) ?_
    refine X_cV (As := [.int ((-2 : Int32))]) (st := []) C (post := _) (m) (by omega) hsm rfl (ct_X8_bad hw hM ((-2 : Int32)) h g) kX8_75 (by decide) (by decide) rfl rfl (Nat.le_of_ble_eq_true rfl) (D (10, .invokevirtual 75, 3) (mg 5 rfl)) rfl (fun v30 H28 G29 hv30 => ?_)
    obtain ⟨rfl, rfl, rfl⟩ := hv30
    show X k w _ 13 [some (.ref (wA w (m))), some (.int (a1)), none, none, none, none, none, none] [.int ((-2 : Int32))] (rfH h m 0) g
    exact X_iret C (D (13, .ireturn, 1) (mg 6 rfl)) ⟨⟨_, rfl⟩, ⟨fun q i z0 => by have z := z0; unfold SM at z; rw [rfH_ne _ _ _ (by omega)], rU_k (fun i => by rw [rfH_ne _ _ _ (by omega)]) hI.1⟩⟩
set_option maxHeartbeats 4000000 in
set_option maxRecDepth 100000 in
theorem ct_X8_ask {l : Launch} {w : Kw} (hw : wOk w) {m : Nat} (hM : shM w m) (h : xI) (g : xJ) (hI : mOk h m) : Ct l w yX8_ask cX8_ask 7 (some .int) 2 49 [.ref (wA w (m))] h g (pQ (mW m h)) := by
  refine Ct_of (ls := [some (.ref (wA w (m))), none, none, none, none, none, none]) (by decide) hw (Nat.le_of_ble_eq_true rfl) rfl (fun k hkl C => ?_)
  have C : Cx k w cX8_ask RX8 7 (some .int) 2 49 := C
  have D := dtX8_ask
  subst hkl
  have hM0 := hM
  obtain ⟨hm, hsm, hs1, hs2, hs3, hs4, hs5, hs6, hs7, hs8, hs9, hs10, hs11⟩ := hM
  have hM := hM0
  have hI0 := hI
  obtain ⟨⟨⟨nu, hnu, eu⟩, ⟨c0, hc0, hat⟩, hpl⟩, ⟨⟨ns, hns, hse⟩, ⟨nm, hnm, hma⟩⟩, hK, ⟨nt, hnt, htx⟩⟩ := hI
  have hI := hI0
  refine X_aload_n C 0 (D (0, .aload_n 0, 1) (mg 0 rfl)) rfl rfl ?_
  refine X_cV (As := []) (st := []) C (post := _) (m) (by omega) hsm rfl (ct_X8_kindsOfHarrow hw hM (n := nm) (by omega) h g (hma)) kX8_194 (by decide) (by decide) rfl rfl (Nat.le_of_ble_eq_true rfl) (D (1, .invokevirtual 194, 3) (mg 1 rfl)) rfl (fun v3 H1 G2 hv3 => ?_)
  obtain ⟨rfl, rfl, rfl⟩ := hv3
  show X k w _ 4 [some (.ref (wA w (m))), none, none, none, none, none, none] [.int (dpB (fun kd => ¬ alK h (m + 1) kd nm = 0) 6)] h g
  refine X_istore_n (ls' := [some (.ref (wA w (m))), some (.int (dpB (fun kd => ¬ alK h (m + 1) kd nm = 0) 6)), none, none, none, none, none]) C 1 (D (4, .istore_n 1, 1) (mg 2 rfl)) rfl (Nat.le_of_ble_eq_true rfl) rfl ?_
  refine X_iconst (v := (-1 : Int32)) C (D (5, .iconst (-1), 1) (mg 3 rfl)) (by decide) ?_
  refine X_istore_n (ls' := [some (.ref (wA w (m))), some (.int (dpB (fun kd => ¬ alK h (m + 1) kd nm = 0) 6)), some (.int ((-1 : Int32))), none, none, none, none]) C 2 (D (6, .istore_n 2, 1) (mg 4 rfl)) rfl (Nat.le_of_ble_eq_true rfl) rfl ?_
  refine X_ldc C (D (7, .ldc 162, 2) (mg 5 rfl)) vX8_162 ?_
  refine X_ti (y := nI (1000000)) (by decide) ?_
  refine X_istore_n (ls' := [some (.ref (wA w (m))), some (.int (dpB (fun kd => ¬ alK h (m + 1) kd nm = 0) 6)), some (.int ((-1 : Int32))), some (.int (nI (1000000))), none, none, none]) C 3 (D (9, .istore_n 3, 1) (mg 6 rfl)) rfl (Nat.le_of_ble_eq_true rfl) rfl ?_
  refine X_iconst (v := nI (0)) C (D (10, .iconst 0, 1) (mg 7 rfl)) (by decide) ?_
  refine X_istore (ls' := [some (.ref (wA w (m))), some (.int (dpB (fun kd => ¬ alK h (m + 1) kd nm = 0) 6)), some (.int ((-1 : Int32))), some (.int (nI (1000000))), some (.int (nI (0))), none, none]) C (D (11, .istore 4, 2) (mg 8 rfl)) (Nat.le_of_ble_eq_true rfl) rfl ?_
  have lp13 : ∀ (nn13 : Nat) (j : Nat) (b2 : Int32) (b3 : Int32) (hp13 : xI) (gp13 : xJ), (j ≤ 5) → (mW m h hp13) → 6 - j ≤ nn13 → X k w (Zq k w (pQ (mW m h))) 13 [some (.ref (wA w (m))), some (.int (dpB (fun kd => ¬ alK h (m + 1) kd nm = 0) 6)), some (.int (b2)), some (.int (b3)), some (.int (nI (j))), none, none] [] hp13 gp13 := by
    intro nn13
    induction nn13 with
    | zero => intro j b2 b3 hp13 gp13 hc13_0 hc13_1 hz; exact absurd hz (by omega)
    | succ nn13 ih13 =>
      intro j b2 b3 hp13 gp13 hc13_0 hc13_1 hz13
      obtain ⟨⟨u4, hu4, eu4⟩, ⟨c5, hc5, ec5⟩, -⟩ := (hc13_1).2
      refine X_iload C (D (13, .iload 4, 2) (mg 9 rfl)) rfl ?_
      refine X_iconst (v := nI (5)) C (D (15, .iconst 5, 1) (mg 10 rfl)) (by decide) ?_
      refine X_icmp_ge (tgt := 116) C (D (16, .if_icmp .ge 100, 3) (mg 11 rfl)) (by decide) (fun q6 => ?_) (fun q6 => ?_)
      · skip
        have q6 : (j) ≥ (5) := by have z := (nI_leI (a := (5)) (b := (j)) (by omega) (by omega)).mp q6; omega
        refine X_iload_n C 2 (D (116, .iload_n 2, 1) (mg 60 rfl)) rfl rfl ?_
        exact X_iret C (D (117, .ireturn, 1) (mg 61 rfl)) ⟨⟨_, rfl⟩, hc13_1⟩
      · skip
        have q6 : (j) < (5) := by have z : ¬ ((5) ≤ (j)) := fun u => q6 ((nI_leI (a := (5)) (b := (j)) (by omega) (by omega)).mpr u); omega
        refine X_iload_n C 1 (D (19, .iload_n 1, 1) (mg 12 rfl)) rfl rfl ?_
        refine X_if_le (tgt := 116) C (D (20, .ifCond .le 96, 3) (mg 13 rfl)) (by decide) (fun q7 => ?_) (fun q7 => ?_)
        · skip
          refine X_iload_n C 2 (D (116, .iload_n 2, 1) (mg 60 rfl)) rfl rfl ?_
          exact X_iret C (D (117, .ireturn, 1) (mg 61 rfl)) ⟨⟨_, rfl⟩, hc13_1⟩
        · skip
          refine X_iconst (v := nI (0)) C (D (23, .iconst 0, 1) (mg 14 rfl)) (by decide) ?_
          refine X_istore (ls' := [some (.ref (wA w (m))), some (.int (dpB (fun kd => ¬ alK h (m + 1) kd nm = 0) 6)), some (.int (b2)), some (.int (b3)), some (.int (nI (j))), some (.int (nI (0))), none]) C (D (24, .istore 5, 2) (mg 15 rfl)) (Nat.le_of_ble_eq_true rfl) rfl ?_
          have lp26 : ∀ (nn26 : Nat) (i5 : Nat) (b2 : Int32) (b3 : Int32) (hp26 : xI) (gp26 : xJ), (i5 ≤ 10) → (mW m h hp26) → 11 - i5 ≤ nn26 → X k w (Zq k w (pQ (mW m h))) 26 [some (.ref (wA w (m))), some (.int (dpB (fun kd => ¬ alK h (m + 1) kd nm = 0) 6)), some (.int (b2)), some (.int (b3)), some (.int (nI (j))), some (.int (nI (i5))), none] [] hp26 gp26 := by
            intro nn26
            induction nn26 with
            | zero => intro i5 b2 b3 hp26 gp26 hc26_0 hc26_1 hz; exact absurd hz (by omega)
            | succ nn26 ih26 =>
              intro i5 b2 b3 hp26 gp26 hc26_0 hc26_1 hz26
              obtain ⟨⟨u8, hu8, eu8⟩, ⟨c9, hc9, ec9⟩, -⟩ := (hc26_1).2
              refine X_iload C (D (26, .iload 5, 2) (mg 16 rfl)) rfl ?_
              refine X_bipush (v := nI (10)) C (D (28, .bipush 10, 2) (mg 17 rfl)) (by decide) ?_
              refine X_icmp_ge (tgt := 110) C (D (30, .if_icmp .ge 80, 3) (mg 18 rfl)) (by decide) (fun q10 => ?_) (fun q10 => ?_)
              · skip
                have q10 : (i5) ≥ (10) := by have z := (nI_leI (a := (10)) (b := (i5)) (by omega) (by omega)).mp q10; omega
                refine X_iinc (v := nI (j + 1)) (ls' := [some (.ref (wA w (m))), some (.int (dpB (fun kd => ¬ alK h (m + 1) kd nm = 0) 6)), some (.int (b2)), some (.int (b3)), some (.int (nI (j + 1))), some (.int (nI (i5))), none]) C (D (110, .iinc 4 1, 3) (mg 58 rfl)) rfl (nI_add (j) 1) rfl ?_
                refine X_goto (tgt := 13) C (D (113, .goto (-100), 3) (mg 59 rfl)) (by decide) ?_
                refine X_los (ls' := [some (.ref (wA w (m))), some (.int (dpB (fun kd => ¬ alK h (m + 1) kd nm = 0) 6)), some (.int (b2)), some (.int (b3)), some (.int (nI (j + 1))), none, none]) (by simp [lsub]) ?_
                refine X_eq (ls' := [some (.ref (wA w (m))), some (.int (dpB (fun kd => ¬ alK h (m + 1) kd nm = 0) 6)), some (.int (b2)), some (.int (b3)), some (.int (nI (j + 1))), none, none]) (st' := []) (h' := hp26) (g' := gp26) rfl rfl rfl rfl ?_
                exact ih13 (j + 1) (b2) (b3) (hp26) (gp26) (by omega) hc26_1 (by omega)
              · skip
                have q10 : (i5) < (10) := by have z : ¬ ((10) ≤ (i5)) := fun u => q10 ((nI_leI (a := (10)) (b := (i5)) (by omega) (by omega)).mpr u); omega
                refine X_iconst (v := nI (0)) C (D (33, .iconst 0, 1) (mg 19 rfl)) (by decide) ?_
                refine X_istore (ls' := [some (.ref (wA w (m))), some (.int (dpB (fun kd => ¬ alK h (m + 1) kd nm = 0) 6)), some (.int (b2)), some (.int (b3)), some (.int (nI (j))), some (.int (nI (i5))), some (.int (nI (0)))]) C (D (34, .istore 6, 2) (mg 20 rfl)) (Nat.le_of_ble_eq_true rfl) rfl ?_
                have lp36 : ∀ (nn36 : Nat) (i7 : Nat) (hp36 : xI) (gp36 : xJ), (i7 ≤ 6) → (mW m h hp36) → 7 - i7 ≤ nn36 → X k w (Zq k w (pQ (mW m h))) 36 [some (.ref (wA w (m))), some (.int (dpB (fun kd => ¬ alK h (m + 1) kd nm = 0) 6)), some (.int (b2)), some (.int (b3)), some (.int (nI (j))), some (.int (nI (i5))), some (.int (nI (i7)))] [] hp36 gp36 := by
                  intro nn36
                  induction nn36 with
                  | zero => intro i7 hp36 gp36 hc36_0 hc36_1 hz; exact absurd hz (by omega)
                  | succ nn36 ih36 =>
                    intro i7 hp36 gp36 hc36_0 hc36_1 hz36
                    obtain ⟨⟨u11, hu11, eu11⟩, ⟨c12, hc12, ec12⟩, -⟩ := (hc36_1).2
                    refine X_iload C (D (36, .iload 6, 2) (mg 21 rfl)) rfl ?_
                    refine X_bipush (v := nI (6)) C (D (38, .bipush 6, 2) (mg 22 rfl)) (by decide) ?_
                    refine X_icmp_ge (tgt := 65) C (D (40, .if_icmp .ge 25, 3) (mg 23 rfl)) (by decide) (fun q13 => ?_) (fun q13 => ?_)
                    · skip
                      have q13 : (i7) ≥ (6) := by have z := (nI_leI (a := (6)) (b := (i7)) (by omega) (by omega)).mp q13; omega
                      refine X_aload_n C 0 (D (65, .aload_n 0, 1) (mg 34 rfl)) rfl rfl ?_
                      refine X_iload_n C 1 (D (66, .iload_n 1, 1) (mg 35 rfl)) rfl rfl ?_
                      refine X_cV (As := [.int (dpB (fun kd => ¬ alK h (m + 1) kd nm = 0) 6)]) (st := []) C (post := _) (m) (by omega) hsm rfl (ct_X8_mostAlike hw hM (dpB (fun kd => ¬ alK h (m + 1) kd nm = 0) 6) hp36 gp36) kX8_191 (by decide) (by decide) rfl rfl (Nat.le_of_ble_eq_true rfl) (D (67, .invokevirtual 191, 3) (mg 36 rfl)) rfl (fun v16 H14 G15 hv16 => ?_)
                      obtain ⟨⟨y17, rfl⟩, rfl, rfl⟩ := hv16
                      show X k w _ 70 [some (.ref (wA w (m))), some (.int (dpB (fun kd => ¬ alK h (m + 1) kd nm = 0) 6)), some (.int (b2)), some (.int (b3)), some (.int (nI (j))), some (.int (nI (i5))), some (.int (nI (i7)))] [.int (y17)] hp36 gp36
                      refine X_istore (ls' := [some (.ref (wA w (m))), some (.int (dpB (fun kd => ¬ alK h (m + 1) kd nm = 0) 6)), some (.int (b2)), some (.int (b3)), some (.int (nI (j))), some (.int (nI (i5))), some (.int (y17))]) C (D (70, .istore 6, 2) (mg 37 rfl)) (Nat.le_of_ble_eq_true rfl) rfl ?_
                      refine X_iload C (D (72, .iload 6, 2) (mg 38 rfl)) rfl ?_
                      refine X_iload_n C 3 (D (74, .iload_n 3, 1) (mg 39 rfl)) rfl rfl ?_
                      refine X_icmp_ge (tgt := 89) C (D (75, .if_icmp .ge 14, 3) (mg 40 rfl)) (by decide) (fun q18 => ?_) (fun q18 => ?_)
                      · skip
                        refine X_iload_n C 2 (D (89, .iload_n 2, 1) (mg 47 rfl)) rfl rfl ?_
                        refine X_istore_n (ls' := [some (.ref (wA w (m))), some (.int (dpB (fun kd => ¬ alK h (m + 1) kd nm = 0) 6)), some (.int (b2)), some (.int (b3)), some (.int (nI (j))), some (.int (nI (i5))), some (.int (y17))]) C 2 (D (90, .istore_n 2, 1) (mg 48 rfl)) rfl (Nat.le_of_ble_eq_true rfl) rfl ?_
                        refine X_iload C (D (91, .iload 6, 2) (mg 49 rfl)) rfl ?_
                        refine X_iload_n C 3 (D (93, .iload_n 3, 1) (mg 50 rfl)) rfl rfl ?_
                        refine X_icmp_ge (tgt := 102) C (D (94, .if_icmp .ge 8, 3) (mg 51 rfl)) (by decide) (fun q19 => ?_) (fun q19 => ?_)
                        · skip
                          refine X_iload_n C 3 (D (102, .iload_n 3, 1) (mg 54 rfl)) rfl rfl ?_
                          refine X_istore_n (ls' := [some (.ref (wA w (m))), some (.int (dpB (fun kd => ¬ alK h (m + 1) kd nm = 0) 6)), some (.int (b2)), some (.int (b3)), some (.int (nI (j))), some (.int (nI (i5))), some (.int (y17))]) C 3 (D (103, .istore_n 3, 1) (mg 55 rfl)) rfl (Nat.le_of_ble_eq_true rfl) rfl ?_
                          refine X_iinc (v := nI (i5 + 1)) (ls' := [some (.ref (wA w (m))), some (.int (dpB (fun kd => ¬ alK h (m + 1) kd nm = 0) 6)), some (.int (b2)), some (.int (b3)), some (.int (nI (j))), some (.int (nI (i5 + 1))), some (.int (y17))]) C (D (104, .iinc 5 1, 3) (mg 56 rfl)) rfl (nI_add (i5) 1) rfl ?_
                          refine X_goto (tgt := 26) C (D (107, .goto (-81), 3) (mg 57 rfl)) (by decide) ?_
                          refine X_los (ls' := [some (.ref (wA w (m))), some (.int (dpB (fun kd => ¬ alK h (m + 1) kd nm = 0) 6)), some (.int (b2)), some (.int (b3)), some (.int (nI (j))), some (.int (nI (i5 + 1))), none]) (by simp [lsub]) ?_
                          refine X_eq (ls' := [some (.ref (wA w (m))), some (.int (dpB (fun kd => ¬ alK h (m + 1) kd nm = 0) 6)), some (.int (b2)), some (.int (b3)), some (.int (nI (j))), some (.int (nI (i5 + 1))), none]) (st' := []) (h' := hp36) (g' := gp36) rfl rfl rfl rfl ?_
                          exact ih26 (i5 + 1) (b2) (b3) (hp36) (gp36) (by omega) hc36_1 (by omega)
                        · skip
                          refine X_iload C (D (97, .iload 6, 2) (mg 52 rfl)) rfl ?_
                          refine X_goto (tgt := 103) C (D (99, .goto 4, 3) (mg 53 rfl)) (by decide) ?_
                          refine X_istore_n (ls' := [some (.ref (wA w (m))), some (.int (dpB (fun kd => ¬ alK h (m + 1) kd nm = 0) 6)), some (.int (b2)), some (.int (y17)), some (.int (nI (j))), some (.int (nI (i5))), some (.int (y17))]) C 3 (D (103, .istore_n 3, 1) (mg 55 rfl)) rfl (Nat.le_of_ble_eq_true rfl) rfl ?_
                          refine X_iinc (v := nI (i5 + 1)) (ls' := [some (.ref (wA w (m))), some (.int (dpB (fun kd => ¬ alK h (m + 1) kd nm = 0) 6)), some (.int (b2)), some (.int (y17)), some (.int (nI (j))), some (.int (nI (i5 + 1))), some (.int (y17))]) C (D (104, .iinc 5 1, 3) (mg 56 rfl)) rfl (nI_add (i5) 1) rfl ?_
                          refine X_goto (tgt := 26) C (D (107, .goto (-81), 3) (mg 57 rfl)) (by decide) ?_
                          refine X_los (ls' := [some (.ref (wA w (m))), some (.int (dpB (fun kd => ¬ alK h (m + 1) kd nm = 0) 6)), some (.int (b2)), some (.int (y17)), some (.int (nI (j))), some (.int (nI (i5 + 1))), none]) (by simp [lsub]) ?_
                          refine X_eq (ls' := [some (.ref (wA w (m))), some (.int (dpB (fun kd => ¬ alK h (m + 1) kd nm = 0) 6)), some (.int (b2)), some (.int (y17)), some (.int (nI (j))), some (.int (nI (i5 + 1))), none]) (st' := []) (h' := hp36) (g' := gp36) rfl rfl rfl rfl ?_
                          exact ih26 (i5 + 1) (b2) (y17) (hp36) (gp36) (by omega) hc36_1 (by omega)
                      · skip
                        refine X_bipush (v := nI (10)) C (D (78, .bipush 10, 2) (mg 41 rfl)) (by decide) ?_
                        refine X_iload C (D (80, .iload 4, 2) (mg 42 rfl)) rfl ?_
                        refine X_imul C (D (82, .imul, 1) (mg 43 rfl)) ?_
                        refine X_ti (y := nI ((10) * (j))) (pk_mul (10) (j)) ?_
                        refine X_iload C (D (83, .iload 5, 2) (mg 44 rfl)) rfl ?_
                        refine X_iadd C (D (85, .iadd, 1) (mg 45 rfl)) ?_
                        refine X_ti (y := nI ((10) * (j) + i5)) (nI_add ((10) * (j)) (i5)) ?_
                        refine X_goto (tgt := 90) C (D (86, .goto 4, 3) (mg 46 rfl)) (by decide) ?_
                        refine X_istore_n (ls' := [some (.ref (wA w (m))), some (.int (dpB (fun kd => ¬ alK h (m + 1) kd nm = 0) 6)), some (.int (nI ((10) * (j) + i5))), some (.int (b3)), some (.int (nI (j))), some (.int (nI (i5))), some (.int (y17))]) C 2 (D (90, .istore_n 2, 1) (mg 48 rfl)) rfl (Nat.le_of_ble_eq_true rfl) rfl ?_
                        refine X_iload C (D (91, .iload 6, 2) (mg 49 rfl)) rfl ?_
                        refine X_iload_n C 3 (D (93, .iload_n 3, 1) (mg 50 rfl)) rfl rfl ?_
                        refine X_icmp_ge (tgt := 102) C (D (94, .if_icmp .ge 8, 3) (mg 51 rfl)) (by decide) (fun q20 => ?_) (fun q20 => ?_)
                        · skip
                          refine X_iload_n C 3 (D (102, .iload_n 3, 1) (mg 54 rfl)) rfl rfl ?_
                          refine X_istore_n (ls' := [some (.ref (wA w (m))), some (.int (dpB (fun kd => ¬ alK h (m + 1) kd nm = 0) 6)), some (.int (nI ((10) * (j) + i5))), some (.int (b3)), some (.int (nI (j))), some (.int (nI (i5))), some (.int (y17))]) C 3 (D (103, .istore_n 3, 1) (mg 55 rfl)) rfl (Nat.le_of_ble_eq_true rfl) rfl ?_
                          refine X_iinc (v := nI (i5 + 1)) (ls' := [some (.ref (wA w (m))), some (.int (dpB (fun kd => ¬ alK h (m + 1) kd nm = 0) 6)), some (.int (nI ((10) * (j) + i5))), some (.int (b3)), some (.int (nI (j))), some (.int (nI (i5 + 1))), some (.int (y17))]) C (D (104, .iinc 5 1, 3) (mg 56 rfl)) rfl (nI_add (i5) 1) rfl ?_
                          refine X_goto (tgt := 26) C (D (107, .goto (-81), 3) (mg 57 rfl)) (by decide) ?_
                          refine X_los (ls' := [some (.ref (wA w (m))), some (.int (dpB (fun kd => ¬ alK h (m + 1) kd nm = 0) 6)), some (.int (nI ((10) * (j) + i5))), some (.int (b3)), some (.int (nI (j))), some (.int (nI (i5 + 1))), none]) (by simp [lsub]) ?_
                          refine X_eq (ls' := [some (.ref (wA w (m))), some (.int (dpB (fun kd => ¬ alK h (m + 1) kd nm = 0) 6)), some (.int (nI ((10) * (j) + i5))), some (.int (b3)), some (.int (nI (j))), some (.int (nI (i5 + 1))), none]) (st' := []) (h' := hp36) (g' := gp36) rfl rfl rfl rfl ?_
                          exact ih26 (i5 + 1) (nI ((10) * (j) + i5)) (b3) (hp36) (gp36) (by omega) hc36_1 (by omega)
                        · skip
                          refine X_iload C (D (97, .iload 6, 2) (mg 52 rfl)) rfl ?_
                          refine X_goto (tgt := 103) C (D (99, .goto 4, 3) (mg 53 rfl)) (by decide) ?_
                          refine X_istore_n (ls' := [some (.ref (wA w (m))), some (.int (dpB (fun kd => ¬ alK h (m + 1) kd nm = 0) 6)), some (.int (nI ((10) * (j) + i5))), some (.int (y17)), some (.int (nI (j))), some (.int (nI (i5))), some (.int (y17))]) C 3 (D (103, .istore_n 3, 1) (mg 55 rfl)) rfl (Nat.le_of_ble_eq_true rfl) rfl ?_
                          refine X_iinc (v := nI (i5 + 1)) (ls' := [some (.ref (wA w (m))), some (.int (dpB (fun kd => ¬ alK h (m + 1) kd nm = 0) 6)), some (.int (nI ((10) * (j) + i5))), some (.int (y17)), some (.int (nI (j))), some (.int (nI (i5 + 1))), some (.int (y17))]) C (D (104, .iinc 5 1, 3) (mg 56 rfl)) rfl (nI_add (i5) 1) rfl ?_
                          refine X_goto (tgt := 26) C (D (107, .goto (-81), 3) (mg 57 rfl)) (by decide) ?_
                          refine X_los (ls' := [some (.ref (wA w (m))), some (.int (dpB (fun kd => ¬ alK h (m + 1) kd nm = 0) 6)), some (.int (nI ((10) * (j) + i5))), some (.int (y17)), some (.int (nI (j))), some (.int (nI (i5 + 1))), none]) (by simp [lsub]) ?_
                          refine X_eq (ls' := [some (.ref (wA w (m))), some (.int (dpB (fun kd => ¬ alK h (m + 1) kd nm = 0) 6)), some (.int (nI ((10) * (j) + i5))), some (.int (y17)), some (.int (nI (j))), some (.int (nI (i5 + 1))), none]) (st' := []) (h' := hp36) (g' := gp36) rfl rfl rfl rfl ?_
                          exact ih26 (i5 + 1) (nI ((10) * (j) + i5)) (y17) (hp36) (gp36) (by omega) hc36_1 (by omega)
                    · skip
                      have q13 : (i7) < (6) := by have z : ¬ ((6) ≤ (i7)) := fun u => q13 ((nI_leI (a := (6)) (b := (i7)) (by omega) (by omega)).mpr u); omega
                      refine X_aload_n C 0 (D (43, .aload_n 0, 1) (mg 24 rfl)) rfl rfl ?_
                      refine X_get (v := .ref (wA w (m + 8))) C (m) 9 (by omega) hsm rfl rfl (by decide) inX8 fX8_36 rfl (D (44, .getfield 36, 3) (mg 25 rfl)) rfl ?_
                      refine X_iload C (D (47, .iload 6, 2) (mg 26 rfl)) rfl ?_
                      refine X_iload C (D (49, .iload 6, 2) (mg 27 rfl)) rfl ?_
                      refine X_iload C (D (51, .iload 4, 2) (mg 28 rfl)) rfl ?_
                      refine X_iload C (D (53, .iload 5, 2) (mg 29 rfl)) rfl ?_
                      refine X_cS (As := [.int (nI (i7)), .int (nI (j)), .int (nI (i5))]) (st := [.int (nI (i7)), .ref (wA w (m + 8))]) C (post := _) (ct_X8_deeperAs hw (nI (i7)) (nI (j)) (nI (i5)) hp36 gp36) kX8_100 (by decide) (by decide) rfl rfl (Nat.le_of_ble_eq_true rfl) (D (55, .invokestatic 100, 3) (mg 30 rfl)) rfl (fun v23 H21 G22 hv23 => ?_)
                      obtain ⟨rfl, rfl, rfl⟩ := hv23
                      show X k w _ 58 [some (.ref (wA w (m))), some (.int (dpB (fun kd => ¬ alK h (m + 1) kd nm = 0) 6)), some (.int (b2)), some (.int (b3)), some (.int (nI (j))), some (.int (nI (i5))), some (.int (nI (i7)))] [.int (deA (nI (i7)) (nI (j)) (nI (i5))), .int (nI (i7)), .ref (wA w (m + 8))] hp36 gp36
                      refine X_iast (j := i7) C (m + 8) (by omega) hs8 (vp_in_nI (by omega) (by omega)) (D (58, .iastore, 1) (mg 31 rfl)) (nI_clamp (by omega)) ?_
                      refine X_iinc (v := nI (i7 + 1)) (ls' := [some (.ref (wA w (m))), some (.int (dpB (fun kd => ¬ alK h (m + 1) kd nm = 0) 6)), some (.int (b2)), some (.int (b3)), some (.int (nI (j))), some (.int (nI (i5))), some (.int (nI (i7 + 1)))]) C (D (59, .iinc 6 1, 3) (mg 32 rfl)) rfl (nI_add (i7) 1) rfl ?_
                      refine X_goto (tgt := 36) C (D (62, .goto (-26), 3) (mg 33 rfl)) (by decide) ?_
                      refine X_eq (ls' := [some (.ref (wA w (m))), some (.int (dpB (fun kd => ¬ alK h (m + 1) kd nm = 0) 6)), some (.int (b2)), some (.int (b3)), some (.int (nI (j))), some (.int (nI (i5))), some (.int (nI (i7 + 1)))]) (st' := []) (h' := (u2 hp36 (m + 8) (i7) (deA (nI (i7)) (nI (j)) (nI (i5))))) (g' := gp36) rfl rfl rfl rfl ?_
                      exact ih36 (i7 + 1) ((u2 hp36 (m + 8) (i7) (deA (nI (i7)) (nI (j)) (nI (i5))))) (gp36) (by omega) ⟨fun q i z0 => by have z := z0; unfold SM at z; rw [u2_ne _ _ _ _ (by omega)]; exact (hc36_1).1 q i z0, rU_k (fun i => by rw [u2_ne _ _ _ _ (by omega)]) (hc36_1).2⟩ (by omega)
                refine X_eq (ls' := [some (.ref (wA w (m))), some (.int (dpB (fun kd => ¬ alK h (m + 1) kd nm = 0) 6)), some (.int (b2)), some (.int (b3)), some (.int (nI (j))), some (.int (nI (i5))), some (.int (nI (0)))]) (st' := []) (h' := hp26) (g' := gp26) rfl rfl rfl rfl ?_
                exact lp36 _ (0) (hp26) (gp26) (by omega) hc26_1 (Nat.le_refl _)
          refine X_eq (ls' := [some (.ref (wA w (m))), some (.int (dpB (fun kd => ¬ alK h (m + 1) kd nm = 0) 6)), some (.int (b2)), some (.int (b3)), some (.int (nI (j))), some (.int (nI (0))), none]) (st' := []) (h' := hp13) (g' := gp13) rfl rfl rfl rfl ?_
          exact lp26 _ (0) (b2) (b3) (hp13) (gp13) (by omega) hc13_1 (Nat.le_refl _)
  refine X_eq (ls' := [some (.ref (wA w (m))), some (.int (dpB (fun kd => ¬ alK h (m + 1) kd nm = 0) 6)), some (.int ((-1 : Int32))), some (.int (nI (1000000))), some (.int (nI (0))), none, none]) (st' := []) (h' := h) (g' := g) rfl rfl rfl rfl ?_
  exact lp13 _ (0) ((-1 : Int32)) (nI (1000000)) (h) (g) (by omega) (mW_r hI) (Nat.le_refl _)
