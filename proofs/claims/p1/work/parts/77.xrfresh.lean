/-! PHASE 3, THE REFERENCE: a fresh row -/
/-- a fresh row of the reference -/
def mFr (m : Nat) (h : xI) : Prop := (∀ i, i < 94 → h (m + 1) i = nI 0) ∧ h m 11 = nI 0 ∧ ∀ i, i < 3 → h (m + 4) i = nI 0
theorem mFr_k {m : Nat} {h h' : xI} (f : ∀ q i, (q = m ∨ q = m + 1 ∨ q = m + 4) → h' q i = h q i) (H : mFr m h) : mFr m h' := ⟨fun i hi => (f _ _ (by omega)).trans (H.1 i hi), (f _ _ (by omega)).trans H.2.1, fun i hi => (f _ _ (by omega)).trans (H.2.2 i hi)⟩
def pRo (y : Int32) : Option Value → xI → xJ → Prop := fun v _ _ => v = some (.int y)
theorem pRo_i {y y' : Int32} {h' : xI} {g : xJ} (e : y = y') : pRo y (some (.int y')) h' g := by rw [e]; rfl
def pRl (y : Int64) : Option Value → xI → xJ → Prop := fun v _ _ => v = some (.long y)
theorem pRl_i {y y' : Int64} {h' : xI} {g : xJ} (e : y = y') : pRl y (some (.long y')) h' g := by rw [e]; rfl
def pG (y : Int32) (m : Nat) (h : xI) : Option Value → xI → xJ → Prop := fun v h' _ => v = some (.int y) ∧ ∀ q i, q ≠ m + 5 → h' q i = h q i
theorem pG_i {y y' : Int32} {m : Nat} {h h' : xI} {g : xJ} (e : y = y') (f : ∀ q i, q ≠ m + 5 → h' q i = h q i) : pG y m h (some (.int y')) h' g := ⟨by rw [e], f⟩
/-- nothing lies in row q -/
def em (q : Nat) (h : xI) : Prop := ∀ c, c < 25 → h q (3 + c) = nI 0
theorem em_a {m : Nat} {h : xI} (H : mFr m h) : em (m + 1) h := fun c hc => H.1 _ (by omega)
theorem em_ha {m : Nat} {h : xI} (H : mFr m h) : em (m + 5) (haH h m) := fun c hc => (haH_at _ _ (by omega)).trans (H.1 _ (by omega))
theorem em_st {q c : Nat} {h : xI} (hc : c < 25) (H : em q h) : em q (stH h q c) := fun i hi => by
  unfold stH
  rw [if_pos (by rw [u2_ne _ _ _ _ (by omega), H c hc]; rfl), u2_ne _ _ _ _ (by omega)]
  exact H i hi
theorem wk_z : wk (nI 0) = nI 0 := if_neg (fun z => z rfl)
theorem em_wk {q : Nat} {h : xI} (H : em q h) : em q (wkH h q) := fun c hc => by
  unfold wkH
  rw [u2_ne _ _ _ _ (by omega)]
  unfold mp
  rw [if_pos (by omega), H c hc]
  exact wk_z
theorem em_wkN {q : Nat} : ∀ (n : Nat) {h : xI}, em q h → em q (wkN q n h)
  | 0, _, H => H
  | n + 1, _, H => em_wkN n (em_wk H)
theorem em_1 {q : Nat} {h : xI} (H : em q h) : cn (fun c => ¬ hiV (h q (3 + c)) < nI 1) 25 = 0 := cn_0 25 (fun c hc z => z (by rw [H c hc, hiV_0]; decide))
theorem em_8 {q : Nat} {h : xI} (H : em q h) : cn (fun c => ¬ hiV (h q (3 + c)) < nI 8) 25 = 0 := cn_0 25 (fun c hc z => z (by rw [H c hc, hiV_0]; decide))
theorem em_0 {q : Nat} {h : xI} (H : em q h) : cn (fun c => ¬ h q (3 + c) = 0) 25 = 0 := cn_0 25 (fun c hc z => z (H c hc))
theorem mFr_rM {m : Nat} {h : xI} (H : mFr m h) : rM (haH h m) (m + 5) (nBeg 0 0) := ⟨(haH_at _ _ (by omega)).trans (H.1 _ (by omega)), (haH_at _ _ (by omega)).trans (H.1 _ (by omega)), fun c hc => (haH_at _ _ (by omega)).trans (H.1 _ (by omega)), fun c hc => (haH_at _ _ (by omega)).trans (H.1 _ (by omega))⟩
theorem sp_0 (b d : Nat) : spP (nI 0) b d = (-1 : Int32) := if_neg (fun z => z rfl)
theorem cu_0 : cuP (nI 0) (-1 : Int32) = nI 0 := by decide
def thC : Nat → Int32
  | 0 => (-1 : Int32)
  | n + 1 => if gbI n ≤ thM n then thC n else nI n
theorem th_65 : thC 64 = nI 21 := by decide +kernel
def dgP (H : Int64) : Nat → Int64
  | 0 => H
  | n + 1 => 31 * dgP H n + (if n = 0 then nI 0 else (-1 : Int32)).toInt64
theorem dgP_s (H : Int64) (n : Nat) : dgP H (n + 1) = 31 * dgP H n + (if n = 0 then nI 0 else (-1 : Int32)).toInt64 := rfl
theorem dgP_4 (n : Nat) : dgP (dg2 n) 4 = dg2 (n + 1) := rfl
theorem ct_0 {m : Nat} {h : xI} (H : mFr m h) {i : Nat} (hi : i < 10) : ctO h m i = nI 0 := by
  have z := H.1
  unfold ctO
  rw [em_0 (em_a H), em_1 (em_a H), em_8 (em_a H), z 29 (by omega), z 28 (by omega), z 30 (by omega), H.2.1]
  repeat' split
  all_goals first | rfl | exact z _ (by omega)
theorem td_0 {m : Nat} {h : xI} (H : mFr m h) {c : Nat} (hc : c < 25) {i : Nat} (hi : i < 4) : tdO h (m + 1) c (nI i) = (if i = 0 then nI 0 else (-1 : Int32)) := by
  unfold tdO
  rw [em_a H c hc, H.1 (31 + c) (by omega), H.1 30 (by omega)]
  rcases (show i = 0 ∨ i = 1 ∨ i = 2 ∨ i = 3 by omega) with rfl | rfl | rfl | rfl <;> decide
set_option maxHeartbeats 4000000 in
set_option maxRecDepth 100000 in
theorem cx_X8_when {l : Launch} {w : Kw} (hw : wOk w) {m : Nat} (hM : shM w m) (a1 : Int32) (a2 : Int32) (h : xI) (g : xJ) (hF : mFr m h) : Ct l w yX8_when cX8_when 4 (some .int) 2 46 [.ref (wA w (m)), .int (a1), .int (a2)] h g (pRo (if (0 ≤ a1.toInt ∧ a1.toInt < 25) ∧ (1 ≤ a2.toInt ∧ a2.toInt ≤ 20) then (-1 : Int32) else (-2 : Int32))) := by
  refine Ct_of (ls := [some (.ref (wA w (m))), some (.int (a1)), some (.int (a2)), none]) (by decide) hw (Nat.le_of_ble_eq_true rfl) rfl (fun k hkl C => ?_)
  have C : Cx k w cX8_when RX8 4 (some .int) 2 46 := C
  have D := dtX8_when
  subst hkl
  generalize hPP : (pRo (if (0 ≤ a1.toInt ∧ a1.toInt < 25) ∧ (1 ≤ a2.toInt ∧ a2.toInt ≤ 20) then (-1 : Int32) else (-2 : Int32))) = PP
  have hM0 := hM
  obtain ⟨hm, hsm, hs1, hs2, hs3, hs4, hs5, hs6, hs7, hs8, hs9, hs10, hs11⟩ := hM
  have hM := hM0
  have hF0 := hF
  obtain ⟨hZ, hTx, hRf⟩ := hF
  have hF := hF0
  refine X_iload_n C 1 (D (0, .iload_n 1, 1) (mg 0 rfl)) rfl rfl ?_
  refine X_cS (As := [.int (a1)]) (st := []) C (post := _) (ct_X8_isCell hw (a1) h g) kX8_72 (by decide) (by decide) rfl rfl (Nat.le_of_ble_eq_true rfl) (D (1, .invokestatic 72, 3) (mg 1 rfl)) rfl (fun v3 H1 G2 hv3 => ?_)
  obtain ⟨rfl, rfl, rfl⟩ := hv3
  show X k w _ 4 [some (.ref (wA w (m))), some (.int (a1)), some (.int (a2)), none] [.int (if 0 ≤ (a1).toInt ∧ (a1).toInt < 25 then 1 else 0)] h g
  refine X_if_eq (tgt := 19) C (D (4, .ifCond .eq 15, 3) (mg 2 rfl)) (by decide) (fun q4 => ?_) (fun q4 => ?_)
  · skip
    have q4 : ¬ (0 ≤ (a1).toInt ∧ (a1).toInt < 25) := bz0.mp q4
    refine X_aload_n C 0 (D (19, .aload_n 0, 1) (mg 9 rfl)) rfl rfl ?_
    refine X_bipush (v := (-2 : Int32)) C (D (20, .bipush (-2), 2) (mg 10 rfl)) (by decide) ?_
    refine X_cV (As := [.int ((-2 : Int32))]) (st := []) C (post := _) (m) (by omega) hsm rfl (ct_X8_bad hw hM ((-2 : Int32)) h g) kX8_75 (by decide) (by decide) rfl rfl (Nat.le_of_ble_eq_true rfl) (D (22, .invokevirtual 75, 3) (mg 11 rfl)) rfl (fun v7 H5 G6 hv7 => ?_)
    obtain ⟨rfl, rfl, rfl⟩ := hv7
    show X k w _ 25 [some (.ref (wA w (m))), some (.int (a1)), some (.int (a2)), none] [.int ((-2 : Int32))] (rfH h m 0) g
    exact X_iret C (D (25, .ireturn, 1) (mg 12 rfl)) (by rw [← hPP]; exact pRo_i (if_neg (by omega)))
  · skip
    have q4 : (0 ≤ (a1).toInt ∧ (a1).toInt < 25) := bz1.mp q4
    obtain ⟨n8, hn8, rfl⟩ := nI_i (x := a1) (n := 25) q4.1 (by omega)
    refine X_iload_n C 2 (D (7, .iload_n 2, 1) (mg 3 rfl)) rfl rfl ?_
    refine X_i2l C (D (8, .i2l, 1) (mg 4 rfl)) ?_
    refine X_lconst (v := lN 1) C (D (9, .lconst 1, 1) (mg 5 rfl)) (by decide) ?_
    refine X_ldc2 C (D (10, .ldc2_w 156, 3) (mg 6 rfl)) vX8_156 ?_
    refine X_tl (y := lN (20)) rfl ?_
    refine X_cS (As := [.long ((a2).toInt64), .long (lN (1)), .long (lN (20))]) (st := []) C (post := _) (ct_X8_in hw ((a2).toInt64) (lN (1)) (lN (20)) h g) kX8_54 (by decide) (by decide) rfl rfl (Nat.le_of_ble_eq_true rfl) (D (13, .invokestatic 54, 3) (mg 7 rfl)) rfl (fun v11 H9 G10 hv11 => ?_)
    obtain ⟨rfl, rfl, rfl⟩ := hv11
    show X k w _ 16 [some (.ref (wA w (m))), some (.int (nI (n8))), some (.int (a2)), none] [.int (if (lN (1)).toInt ≤ ((a2).toInt64).toInt ∧ ((a2).toInt64).toInt ≤ (lN (20)).toInt then 1 else 0)] h g
    refine X_if_ne (tgt := 26) C (D (16, .ifCond .ne 10, 3) (mg 8 rfl)) (by decide) (fun q12 => ?_) (fun q12 => ?_)
    · skip
      have q12 : ((lN (1)).toInt ≤ ((a2).toInt64).toInt ∧ ((a2).toInt64).toInt ≤ (lN (20)).toInt) := bz1.mp q12
      simp only [i6, pk_lT (n := 1) (by omega), pk_lT (n := 20) (by omega)] at q12
      refine X_aload_n C 0 (D (26, .aload_n 0, 1) (mg 13 rfl)) rfl rfl ?_
      refine X_cV (As := []) (st := []) C (post := _) (m) (by omega) hsm rfl (ct_X8_layHand hw hM h g) kX8_149 (by decide) (by decide) rfl rfl (Nat.le_of_ble_eq_true rfl) (D (27, .invokevirtual 149, 3) (mg 14 rfl)) rfl (fun v15 H13 G14 hv15 => ?_)
      obtain ⟨rfl, rfl, rfl⟩ := hv15
      show X k w _ 30 [some (.ref (wA w (m))), some (.int (nI (n8))), some (.int (a2)), none] [] (haH h m) g
      refine X_iconst (v := nI (0)) C (D (30, .iconst 0, 1) (mg 15 rfl)) (by decide) ?_
      refine X_istore_n (ls' := [some (.ref (wA w (m))), some (.int (nI (n8))), some (.int (a2)), some (.int (nI (0)))]) C 3 (D (31, .istore_n 3, 1) (mg 16 rfl)) rfl (Nat.le_of_ble_eq_true rfl) rfl ?_
      have lp32 : ∀ (nn32 : Nat) (j : Nat) (hp32 : xI) (gp32 : xJ), (j ≤ 61) → (em (m + 5) hp32) → 62 - j ≤ nn32 → X k w (Zq k w (PP)) 32 [some (.ref (wA w (m))), some (.int (nI (n8))), some (.int (a2)), some (.int (nI (j)))] [] hp32 gp32 := by
        intro nn32
        induction nn32 with
        | zero => intro j hp32 gp32 hc32_0 hc32_1 hz; exact absurd hz (by omega)
        | succ nn32 ih32 =>
          intro j hp32 gp32 hc32_0 hc32_1 hz32
          refine X_iload_n C 3 (D (32, .iload_n 3, 1) (mg 17 rfl)) rfl rfl ?_
          refine X_bipush (v := nI (60)) C (D (33, .bipush 60, 2) (mg 18 rfl)) (by decide) ?_
          refine X_icmp_gt (tgt := 65) C (D (35, .if_icmp .gt 30, 3) (mg 19 rfl)) (by decide) (fun q16 => ?_) (fun q16 => ?_)
          · skip
            have q16 : (j) > (60) := by have z := (nI_ltI (a := (60)) (b := (j)) (by omega) (by omega)).mp q16; omega
            refine X_iconst (v := (-1 : Int32)) C (D (65, .iconst (-1), 1) (mg 33 rfl)) (by decide) ?_
            exact X_iret C (D (66, .ireturn, 1) (mg 34 rfl)) (by rw [← hPP]; exact pRo_i (if_pos (by omega)))
          · skip
            have q16 : (j) ≤ (60) := by have z : ¬ ((60) < (j)) := fun u => q16 ((nI_ltI (a := (60)) (b := (j)) (by omega) (by omega)).mpr u); omega
            refine X_aload_n C 0 (D (38, .aload_n 0, 1) (mg 20 rfl)) rfl rfl ?_
            refine X_get (v := .ref (wA w (m + 5))) C (m) 6 (by omega) hsm rfl rfl (by decide) inX8 fX8_27 rfl (D (39, .getfield 27, 3) (mg 21 rfl)) rfl ?_
            refine X_iload_n C 1 (D (42, .iload_n 1, 1) (mg 22 rfl)) rfl rfl ?_
            refine X_cS (As := [.ref (wA w (m + 5)), .int (nI (n8))]) (st := []) C (post := _) (ct_X8_highOf hw (⟨by omega, hs5, by omega, by omega⟩ : rw56 w (m + 5) 56) (by omega) hp32 gp32) kX8_107 (by decide) (by decide) rfl rfl (Nat.le_of_ble_eq_true rfl) (D (43, .invokestatic 107, 3) (mg 23 rfl)) rfl (fun v19 H17 G18 hv19 => ?_)
            obtain ⟨rfl, rfl, rfl⟩ := hv19
            show X k w _ 46 [some (.ref (wA w (m))), some (.int (nI (n8))), some (.int (a2)), some (.int (nI (j)))] [.int (hiV (hp32 (m + 5) (3 + (n8))))] hp32 gp32
            refine X_ti (y := nI (0)) (by rw [hc32_1 _ (by omega)]; exact hiV_0) ?_
            refine X_iload_n C 2 (D (46, .iload_n 2, 1) (mg 24 rfl)) rfl rfl ?_
            refine X_icmp_lt (tgt := 52) C (D (47, .if_icmp .lt 5, 3) (mg 25 rfl)) (by decide) (fun q20 => ?_) (fun q20 => ?_)
            · skip
              refine X_aload_n C 0 (D (52, .aload_n 0, 1) (mg 28 rfl)) rfl rfl ?_
              refine X_get (v := .ref (wA w (m + 5))) C (m) 6 (by omega) hsm rfl rfl (by decide) inX8 fX8_27 rfl (D (53, .getfield 27, 3) (mg 29 rfl)) rfl ?_
              refine X_cS (As := [.ref (wA w (m + 5))]) (st := []) C (post := _) (ct_X8_goWeek hw (⟨by omega, hs5, by omega, by omega⟩ : rw56 w (m + 5) 56) hp32 gp32) kX8_121 (by decide) (by decide) rfl rfl (Nat.le_of_ble_eq_true rfl) (D (56, .invokestatic 121, 3) (mg 30 rfl)) rfl (fun v23 H21 G22 hv23 => ?_)
              obtain ⟨rfl, rfl, rfl⟩ := hv23
              show X k w _ 59 [some (.ref (wA w (m))), some (.int (nI (n8))), some (.int (a2)), some (.int (nI (j)))] [] (wkH hp32 (m + 5)) gp32
              refine X_iinc (v := nI (j + 1)) (ls' := [some (.ref (wA w (m))), some (.int (nI (n8))), some (.int (a2)), some (.int (nI (j + 1)))]) C (D (59, .iinc 3 1, 3) (mg 31 rfl)) rfl (nI_add (j) 1) rfl ?_
              refine X_goto (tgt := 32) C (D (62, .goto (-30), 3) (mg 32 rfl)) (by decide) ?_
              refine X_eq (ls' := [some (.ref (wA w (m))), some (.int (nI (n8))), some (.int (a2)), some (.int (nI (j + 1)))]) (st' := []) (h' := (wkH hp32 (m + 5))) (g' := gp32) rfl rfl rfl rfl ?_
              exact ih32 (j + 1) ((wkH hp32 (m + 5))) (gp32) (by omega) (em_wk hc32_1) (by omega)
            · skip
              exact absurd (by rw [Int32.lt_iff_toInt_lt, nI_i2 (n := 0) (by omega)]; omega) q20
      refine X_eq (ls' := [some (.ref (wA w (m))), some (.int (nI (n8))), some (.int (a2)), some (.int (nI (0)))]) (st' := []) (h' := (haH h m)) (g' := g) rfl rfl rfl rfl ?_
      exact lp32 _ (0) ((haH h m)) (g) (by omega) (em_ha hF) (Nat.le_refl _)
    · skip
      have q12 : ¬ ((lN (1)).toInt ≤ ((a2).toInt64).toInt ∧ ((a2).toInt64).toInt ≤ (lN (20)).toInt) := bz0.mp q12
      simp only [i6, pk_lT (n := 1) (by omega), pk_lT (n := 20) (by omega)] at q12
      refine X_aload_n C 0 (D (19, .aload_n 0, 1) (mg 9 rfl)) rfl rfl ?_
      refine X_bipush (v := (-2 : Int32)) C (D (20, .bipush (-2), 2) (mg 10 rfl)) (by decide) ?_
      refine X_cV (As := [.int ((-2 : Int32))]) (st := []) C (post := _) (m) (by omega) hsm rfl (ct_X8_bad hw hM ((-2 : Int32)) h g) kX8_75 (by decide) (by decide) rfl rfl (Nat.le_of_ble_eq_true rfl) (D (22, .invokevirtual 75, 3) (mg 11 rfl)) rfl (fun v26 H24 G25 hv26 => ?_)
      obtain ⟨rfl, rfl, rfl⟩ := hv26
      show X k w _ 25 [some (.ref (wA w (m))), some (.int (nI (n8))), some (.int (a2)), none] [.int ((-2 : Int32))] (rfH h m 0) g
      exact X_iret C (D (25, .ireturn, 1) (mg 12 rfl)) (by rw [← hPP]; exact pRo_i (if_neg (by omega)))
set_option maxHeartbeats 4000000 in
set_option maxRecDepth 100000 in
theorem cx_X8_greenBy {l : Launch} {w : Kw} (hw : wOk w) {m : Nat} (hM : shM w m) {a1 : Nat} (ha1 : a1 < 64) {a2 : Nat} (ha2 : a2 ≤ 60) (h : xI) (g : xJ) (hF : mFr m h) : Ct l w yX8_greenBy cX8_greenBy 5 (some .int) 4 91 [.ref (wA w (m)), .int (nI (a1)), .int (nI (a2))] h g (pG (gbI a1) m h) := by
  refine Ct_of (ls := [some (.ref (wA w (m))), some (.int (nI (a1))), some (.int (nI (a2))), none, none]) (by decide) hw (Nat.le_of_ble_eq_true rfl) rfl (fun k hkl C => ?_)
  have C : Cx k w cX8_greenBy RX8 5 (some .int) 4 91 := C
  have D := dtX8_greenBy
  subst hkl
  have hM0 := hM
  obtain ⟨hm, hsm, hs1, hs2, hs3, hs4, hs5, hs6, hs7, hs8, hs9, hs10, hs11⟩ := hM
  have hM := hM0
  have hF0 := hF
  obtain ⟨hZ, hTx, hRf⟩ := hF
  have hF := hF0
  refine X_aload_n C 0 (D (0, .aload_n 0, 1) (mg 0 rfl)) rfl rfl ?_
  refine X_cV (As := []) (st := []) C (post := _) (m) (by omega) hsm rfl (ct_X8_layHand hw hM h g) kX8_149 (by decide) (by decide) rfl rfl (Nat.le_of_ble_eq_true rfl) (D (1, .invokevirtual 149, 3) (mg 1 rfl)) rfl (fun v3 H1 G2 hv3 => ?_)
  obtain ⟨rfl, rfl, rfl⟩ := hv3
  show X k w _ 4 [some (.ref (wA w (m))), some (.int (nI (a1))), some (.int (nI (a2))), none, none] [] (haH h m) g
  refine X_iconst (v := nI (0)) C (D (4, .iconst 0, 1) (mg 2 rfl)) (by decide) ?_
  refine X_istore_n (ls' := [some (.ref (wA w (m))), some (.int (nI (a1))), some (.int (nI (a2))), some (.int (nI (0))), none]) C 3 (D (5, .istore_n 3, 1) (mg 3 rfl)) rfl (Nat.le_of_ble_eq_true rfl) rfl ?_
  refine X_iload_n C 3 (D (6, .iload_n 3, 1) (mg 4 rfl)) rfl rfl ?_
  refine X_iconst (v := nI (3)) C (D (7, .iconst 3, 1) (mg 5 rfl)) (by decide) ?_
  refine X_icmp_ge (tgt := 73) C (D (8, .if_icmp .ge 65, 3) (mg 6 rfl)) (by decide) (fun q4 => ?_) (fun q4 => ?_)
  · skip
    exact absurd q4 (by decide)
  · skip
    refine X_iload_n C 3 (D (11, .iload_n 3, 1) (mg 7 rfl)) rfl rfl ?_
    refine X_if_ne (tgt := 22) C (D (12, .ifCond .ne 10, 3) (mg 8 rfl)) (by decide) (fun q5 => ?_) (fun q5 => ?_)
    · skip
      exact absurd q5 (by decide)
    · skip
      refine X_iload_n C 1 (D (15, .iload_n 1, 1) (mg 9 rfl)) rfl rfl ?_
      refine X_bipush (v := nI (16)) C (D (16, .bipush 16, 2) (mg 10 rfl)) (by decide) ?_
      refine X_idiv C (D (18, .idiv, 1) (mg 11 rfl)) (by decide) ?_
      refine X_ti (y := nI ((a1) / (16))) (pk_div (by omega) (by omega) (by omega)) ?_
      refine X_goto (tgt := 38) C (D (19, .goto 19, 3) (mg 12 rfl)) (by decide) ?_
      refine X_istore (ls' := [some (.ref (wA w (m))), some (.int (nI (a1))), some (.int (nI (a2))), some (.int (nI (0))), some (.int (nI ((a1) / (16))))]) C (D (38, .istore 4, 2) (mg 25 rfl)) (Nat.le_of_ble_eq_true rfl) rfl ?_
      refine X_aload_n C 0 (D (40, .aload_n 0, 1) (mg 26 rfl)) rfl rfl ?_
      refine X_get (v := .ref (wA w (m + 5))) C (m) 6 (by omega) hsm rfl rfl (by decide) inX8 fX8_27 rfl (D (41, .getfield 27, 3) (mg 27 rfl)) rfl ?_
      refine X_bipush (v := nI (28)) C (D (44, .bipush 28, 2) (mg 28 rfl)) (by decide) ?_
      refine X_iald (v := (haH h m) (m + 5) (28)) C (m + 5) (by omega) hs5 (vp_in_nI (by omega) (by omega)) (D (46, .iaload, 1) (mg 29 rfl)) (by rw [nI_clamp (by omega)]) ?_
      refine X_ti (y := nI (0)) (((haH_at _ _ (by omega))).trans (hZ 28 (by omega))) ?_
      refine X_iload C (D (47, .iload 4, 2) (mg 30 rfl)) rfl ?_
      refine X_cS (As := [.int (nI (0)), .int (nI ((a1) / (16)))]) (st := []) C (post := _) (ct_X8_beside hw (j := 0) (by omega) (nI ((a1) / (16))) (haH h m) g) kX8_110 (by decide) (by decide) rfl rfl (Nat.le_of_ble_eq_true rfl) (D (49, .invokestatic 110, 3) (mg 31 rfl)) rfl (fun v8 H6 G7 hv8 => ?_)
      obtain ⟨rfl, rfl, rfl⟩ := hv8
      obtain ⟨y9, ey9⟩ : ∃ y, y = bsA (0) (nI ((a1) / (16))) := ⟨_, rfl⟩
      have hy9 := bsA_alt (j := 0) (by omega) (nI ((a1) / (16)))
      rw [← ey9] at hy9
      rw [← ey9]
      show X k w _ 52 [some (.ref (wA w (m))), some (.int (nI (a1))), some (.int (nI (a2))), some (.int (nI (0))), some (.int (nI ((a1) / (16))))] [.int (y9)] (haH h m) g
      refine X_iconst (v := (-1 : Int32)) C (D (52, .iconst (-1), 1) (mg 32 rfl)) (by decide) ?_
      refine X_icmp_ne (tgt := 58) C (D (53, .if_icmp .ne 5, 3) (mg 33 rfl)) (by decide) (fun q10 => ?_) (fun q10 => ?_)
      · skip
        obtain ⟨c11, hc11, rfl⟩ := hy9.resolve_left q10
        have ex1_ := ey9
        rw [bs_all (0) (by omega) ((a1) / (16)) (by omega)] at ex1_
        have hbc1 := bs_c (by omega) ex1_
        have hcc1 := hc11
        refine X_aload_n C 0 (D (58, .aload_n 0, 1) (mg 36 rfl)) rfl rfl ?_
        refine X_get (v := .ref (wA w (m + 5))) C (m) 6 (by omega) hsm rfl rfl (by decide) inX8 fX8_27 rfl (D (59, .getfield 27, 3) (mg 37 rfl)) rfl ?_
        refine X_iload C (D (62, .iload 4, 2) (mg 38 rfl)) rfl ?_
        refine X_cS (As := [.ref (wA w (m + 5)), .int (nI ((a1) / (16)))]) (st := []) C (post := _) (ct_X8_goStep hw (⟨by omega, hs5, by omega, by omega⟩ : rw56 w (m + 5) 56) (j := 0) (c := c11) (by omega) (by omega) (nI ((a1) / (16))) (haH h m) g (((haH_at _ _ (by omega))).trans (hZ 28 (by omega))) ey9.symm) kX8_134 (by decide) (by decide) rfl rfl (Nat.le_of_ble_eq_true rfl) (D (64, .invokestatic 134, 3) (mg 39 rfl)) rfl (fun v14 H12 G13 hv14 => ?_)
        obtain ⟨rfl, rfl, rfl⟩ := hv14
        show X k w _ 67 [some (.ref (wA w (m))), some (.int (nI (a1))), some (.int (nI (a2))), some (.int (nI (0))), some (.int (nI ((a1) / (16))))] [] (stH (haH h m) (m + 5) (c11)) g
        refine X_iinc (v := nI (1)) (ls' := [some (.ref (wA w (m))), some (.int (nI (a1))), some (.int (nI (a2))), some (.int (nI (1))), some (.int (nI ((a1) / (16))))]) C (D (67, .iinc 3 1, 3) (mg 40 rfl)) rfl (nI_add (0) 1) rfl ?_
        refine X_goto (tgt := 6) C (D (70, .goto (-64), 3) (mg 41 rfl)) (by decide) ?_
        refine X_iload_n C 3 (D (6, .iload_n 3, 1) (mg 4 rfl)) rfl rfl ?_
        refine X_iconst (v := nI (3)) C (D (7, .iconst 3, 1) (mg 5 rfl)) (by decide) ?_
        refine X_icmp_ge (tgt := 73) C (D (8, .if_icmp .ge 65, 3) (mg 6 rfl)) (by decide) (fun q15 => ?_) (fun q15 => ?_)
        · skip
          exact absurd q15 (by decide)
        · skip
          refine X_iload_n C 3 (D (11, .iload_n 3, 1) (mg 7 rfl)) rfl rfl ?_
          refine X_if_ne (tgt := 22) C (D (12, .ifCond .ne 10, 3) (mg 8 rfl)) (by decide) (fun q16 => ?_) (fun q16 => ?_)
          · skip
            refine X_iload_n C 3 (D (22, .iload_n 3, 1) (mg 13 rfl)) rfl rfl ?_
            refine X_iconst (v := nI (1)) C (D (23, .iconst 1, 1) (mg 14 rfl)) (by decide) ?_
            refine X_icmp_ne (tgt := 35) C (D (24, .if_icmp .ne 11, 3) (mg 15 rfl)) (by decide) (fun q17 => ?_) (fun q17 => ?_)
            · skip
              exact absurd q17 (by decide)
            · skip
              refine X_iload_n C 1 (D (27, .iload_n 1, 1) (mg 16 rfl)) rfl rfl ?_
              refine X_iconst (v := nI (4)) C (D (28, .iconst 4, 1) (mg 17 rfl)) (by decide) ?_
              refine X_idiv C (D (29, .idiv, 1) (mg 18 rfl)) (by decide) ?_
              refine X_ti (y := nI ((a1) / (4))) (pk_div (by omega) (by omega) (by omega)) ?_
              refine X_iconst (v := nI (4)) C (D (30, .iconst 4, 1) (mg 19 rfl)) (by decide) ?_
              refine X_irem C (D (31, .irem, 1) (mg 20 rfl)) (by decide) ?_
              refine X_ti (y := nI (((a1) / (4)) % (4))) (pk_rem (by omega) (by omega) (by omega)) ?_
              refine X_goto (tgt := 38) C (D (32, .goto 6, 3) (mg 21 rfl)) (by decide) ?_
              refine X_istore (ls' := [some (.ref (wA w (m))), some (.int (nI (a1))), some (.int (nI (a2))), some (.int (nI (1))), some (.int (nI (((a1) / (4)) % (4))))]) C (D (38, .istore 4, 2) (mg 25 rfl)) (Nat.le_of_ble_eq_true rfl) rfl ?_
              refine X_aload_n C 0 (D (40, .aload_n 0, 1) (mg 26 rfl)) rfl rfl ?_
              refine X_get (v := .ref (wA w (m + 5))) C (m) 6 (by omega) hsm rfl rfl (by decide) inX8 fX8_27 rfl (D (41, .getfield 27, 3) (mg 27 rfl)) rfl ?_
              refine X_bipush (v := nI (28)) C (D (44, .bipush 28, 2) (mg 28 rfl)) (by decide) ?_
              refine X_iald (v := (stH (haH h m) (m + 5) (c11)) (m + 5) (28)) C (m + 5) (by omega) hs5 (vp_in_nI (by omega) (by omega)) (D (46, .iaload, 1) (mg 29 rfl)) (by rw [nI_clamp (by omega)]) ?_
              refine X_ti (y := nI (c11)) ((st_28 _ _ _ (by omega))) ?_
              refine X_iload C (D (47, .iload 4, 2) (mg 30 rfl)) rfl ?_
              refine X_cS (As := [.int (nI (c11)), .int (nI (((a1) / (4)) % (4)))]) (st := []) C (post := _) (ct_X8_beside hw (j := c11) (by omega) (nI (((a1) / (4)) % (4))) (stH (haH h m) (m + 5) (c11)) g) kX8_110 (by decide) (by decide) rfl rfl (Nat.le_of_ble_eq_true rfl) (D (49, .invokestatic 110, 3) (mg 31 rfl)) rfl (fun v20 H18 G19 hv20 => ?_)
              obtain ⟨rfl, rfl, rfl⟩ := hv20
              obtain ⟨y21, ey21⟩ : ∃ y, y = bsA (c11) (nI (((a1) / (4)) % (4))) := ⟨_, rfl⟩
              have hy21 := bsA_alt (j := c11) (by omega) (nI (((a1) / (4)) % (4)))
              rw [← ey21] at hy21
              rw [← ey21]
              show X k w _ 52 [some (.ref (wA w (m))), some (.int (nI (a1))), some (.int (nI (a2))), some (.int (nI (1))), some (.int (nI (((a1) / (4)) % (4))))] [.int (y21)] (stH (haH h m) (m + 5) (c11)) g
              refine X_iconst (v := (-1 : Int32)) C (D (52, .iconst (-1), 1) (mg 32 rfl)) (by decide) ?_
              refine X_icmp_ne (tgt := 58) C (D (53, .if_icmp .ne 5, 3) (mg 33 rfl)) (by decide) (fun q22 => ?_) (fun q22 => ?_)
              · skip
                obtain ⟨c23, hc23, rfl⟩ := hy21.resolve_left q22
                have ex2_ := ey21
                rw [bs_all (c11) (by omega) (((a1) / (4)) % (4)) (by omega)] at ex2_
                have hbc2 := bs_c (by omega) ex2_
                have hcc2 := hc23
                refine X_aload_n C 0 (D (58, .aload_n 0, 1) (mg 36 rfl)) rfl rfl ?_
                refine X_get (v := .ref (wA w (m + 5))) C (m) 6 (by omega) hsm rfl rfl (by decide) inX8 fX8_27 rfl (D (59, .getfield 27, 3) (mg 37 rfl)) rfl ?_
                refine X_iload C (D (62, .iload 4, 2) (mg 38 rfl)) rfl ?_
                refine X_cS (As := [.ref (wA w (m + 5)), .int (nI (((a1) / (4)) % (4)))]) (st := []) C (post := _) (ct_X8_goStep hw (⟨by omega, hs5, by omega, by omega⟩ : rw56 w (m + 5) 56) (j := c11) (c := c23) (by omega) (by omega) (nI (((a1) / (4)) % (4))) (stH (haH h m) (m + 5) (c11)) g ((st_28 _ _ _ (by omega))) ey21.symm) kX8_134 (by decide) (by decide) rfl rfl (Nat.le_of_ble_eq_true rfl) (D (64, .invokestatic 134, 3) (mg 39 rfl)) rfl (fun v26 H24 G25 hv26 => ?_)
                obtain ⟨rfl, rfl, rfl⟩ := hv26
                show X k w _ 67 [some (.ref (wA w (m))), some (.int (nI (a1))), some (.int (nI (a2))), some (.int (nI (1))), some (.int (nI (((a1) / (4)) % (4))))] [] (stH (stH (haH h m) (m + 5) (c11)) (m + 5) (c23)) g
                refine X_iinc (v := nI (2)) (ls' := [some (.ref (wA w (m))), some (.int (nI (a1))), some (.int (nI (a2))), some (.int (nI (2))), some (.int (nI (((a1) / (4)) % (4))))]) C (D (67, .iinc 3 1, 3) (mg 40 rfl)) rfl (nI_add (1) 1) rfl ?_
                refine X_goto (tgt := 6) C (D (70, .goto (-64), 3) (mg 41 rfl)) (by decide) ?_
                refine X_iload_n C 3 (D (6, .iload_n 3, 1) (mg 4 rfl)) rfl rfl ?_
                refine X_iconst (v := nI (3)) C (D (7, .iconst 3, 1) (mg 5 rfl)) (by decide) ?_
                refine X_icmp_ge (tgt := 73) C (D (8, .if_icmp .ge 65, 3) (mg 6 rfl)) (by decide) (fun q27 => ?_) (fun q27 => ?_)
                · skip
                  exact absurd q27 (by decide)
                · skip
                  refine X_iload_n C 3 (D (11, .iload_n 3, 1) (mg 7 rfl)) rfl rfl ?_
                  refine X_if_ne (tgt := 22) C (D (12, .ifCond .ne 10, 3) (mg 8 rfl)) (by decide) (fun q28 => ?_) (fun q28 => ?_)
                  · skip
                    refine X_iload_n C 3 (D (22, .iload_n 3, 1) (mg 13 rfl)) rfl rfl ?_
                    refine X_iconst (v := nI (1)) C (D (23, .iconst 1, 1) (mg 14 rfl)) (by decide) ?_
                    refine X_icmp_ne (tgt := 35) C (D (24, .if_icmp .ne 11, 3) (mg 15 rfl)) (by decide) (fun q29 => ?_) (fun q29 => ?_)
                    · skip
                      refine X_iload_n C 1 (D (35, .iload_n 1, 1) (mg 22 rfl)) rfl rfl ?_
                      refine X_iconst (v := nI (4)) C (D (36, .iconst 4, 1) (mg 23 rfl)) (by decide) ?_
                      refine X_irem C (D (37, .irem, 1) (mg 24 rfl)) (by decide) ?_
                      refine X_ti (y := nI ((a1) % (4))) (pk_rem (by omega) (by omega) (by omega)) ?_
                      refine X_istore (ls' := [some (.ref (wA w (m))), some (.int (nI (a1))), some (.int (nI (a2))), some (.int (nI (2))), some (.int (nI ((a1) % (4))))]) C (D (38, .istore 4, 2) (mg 25 rfl)) (Nat.le_of_ble_eq_true rfl) rfl ?_
                      refine X_aload_n C 0 (D (40, .aload_n 0, 1) (mg 26 rfl)) rfl rfl ?_
                      refine X_get (v := .ref (wA w (m + 5))) C (m) 6 (by omega) hsm rfl rfl (by decide) inX8 fX8_27 rfl (D (41, .getfield 27, 3) (mg 27 rfl)) rfl ?_
                      refine X_bipush (v := nI (28)) C (D (44, .bipush 28, 2) (mg 28 rfl)) (by decide) ?_
                      refine X_iald (v := (stH (stH (haH h m) (m + 5) (c11)) (m + 5) (c23)) (m + 5) (28)) C (m + 5) (by omega) hs5 (vp_in_nI (by omega) (by omega)) (D (46, .iaload, 1) (mg 29 rfl)) (by rw [nI_clamp (by omega)]) ?_
                      refine X_ti (y := nI (c23)) ((st_28 _ _ _ (by omega))) ?_
                      refine X_iload C (D (47, .iload 4, 2) (mg 30 rfl)) rfl ?_
                      refine X_cS (As := [.int (nI (c23)), .int (nI ((a1) % (4)))]) (st := []) C (post := _) (ct_X8_beside hw (j := c23) (by omega) (nI ((a1) % (4))) (stH (stH (haH h m) (m + 5) (c11)) (m + 5) (c23)) g) kX8_110 (by decide) (by decide) rfl rfl (Nat.le_of_ble_eq_true rfl) (D (49, .invokestatic 110, 3) (mg 31 rfl)) rfl (fun v32 H30 G31 hv32 => ?_)
                      obtain ⟨rfl, rfl, rfl⟩ := hv32
                      obtain ⟨y33, ey33⟩ : ∃ y, y = bsA (c23) (nI ((a1) % (4))) := ⟨_, rfl⟩
                      have hy33 := bsA_alt (j := c23) (by omega) (nI ((a1) % (4)))
                      rw [← ey33] at hy33
                      rw [← ey33]
                      show X k w _ 52 [some (.ref (wA w (m))), some (.int (nI (a1))), some (.int (nI (a2))), some (.int (nI (2))), some (.int (nI ((a1) % (4))))] [.int (y33)] (stH (stH (haH h m) (m + 5) (c11)) (m + 5) (c23)) g
                      refine X_iconst (v := (-1 : Int32)) C (D (52, .iconst (-1), 1) (mg 32 rfl)) (by decide) ?_
                      refine X_icmp_ne (tgt := 58) C (D (53, .if_icmp .ne 5, 3) (mg 33 rfl)) (by decide) (fun q34 => ?_) (fun q34 => ?_)
                      · skip
                        obtain ⟨c35, hc35, rfl⟩ := hy33.resolve_left q34
                        have ex3_ := ey33
                        rw [bs_all (c23) (by omega) ((a1) % (4)) (by omega)] at ex3_
                        have hbc3 := bs_c (by omega) ex3_
                        have hcc3 := hc35
                        refine X_aload_n C 0 (D (58, .aload_n 0, 1) (mg 36 rfl)) rfl rfl ?_
                        refine X_get (v := .ref (wA w (m + 5))) C (m) 6 (by omega) hsm rfl rfl (by decide) inX8 fX8_27 rfl (D (59, .getfield 27, 3) (mg 37 rfl)) rfl ?_
                        refine X_iload C (D (62, .iload 4, 2) (mg 38 rfl)) rfl ?_
                        refine X_cS (As := [.ref (wA w (m + 5)), .int (nI ((a1) % (4)))]) (st := []) C (post := _) (ct_X8_goStep hw (⟨by omega, hs5, by omega, by omega⟩ : rw56 w (m + 5) 56) (j := c23) (c := c35) (by omega) (by omega) (nI ((a1) % (4))) (stH (stH (haH h m) (m + 5) (c11)) (m + 5) (c23)) g ((st_28 _ _ _ (by omega))) ey33.symm) kX8_134 (by decide) (by decide) rfl rfl (Nat.le_of_ble_eq_true rfl) (D (64, .invokestatic 134, 3) (mg 39 rfl)) rfl (fun v38 H36 G37 hv38 => ?_)
                        obtain ⟨rfl, rfl, rfl⟩ := hv38
                        show X k w _ 67 [some (.ref (wA w (m))), some (.int (nI (a1))), some (.int (nI (a2))), some (.int (nI (2))), some (.int (nI ((a1) % (4))))] [] (stH (stH (stH (haH h m) (m + 5) (c11)) (m + 5) (c23)) (m + 5) (c35)) g
                        refine X_iinc (v := nI (3)) (ls' := [some (.ref (wA w (m))), some (.int (nI (a1))), some (.int (nI (a2))), some (.int (nI (3))), some (.int (nI ((a1) % (4))))]) C (D (67, .iinc 3 1, 3) (mg 40 rfl)) rfl (nI_add (2) 1) rfl ?_
                        refine X_goto (tgt := 6) C (D (70, .goto (-64), 3) (mg 41 rfl)) (by decide) ?_
                        refine X_iload_n C 3 (D (6, .iload_n 3, 1) (mg 4 rfl)) rfl rfl ?_
                        refine X_iconst (v := nI (3)) C (D (7, .iconst 3, 1) (mg 5 rfl)) (by decide) ?_
                        refine X_icmp_ge (tgt := 73) C (D (8, .if_icmp .ge 65, 3) (mg 6 rfl)) (by decide) (fun q39 => ?_) (fun q39 => ?_)
                        · skip
                          refine X_aload_n C 0 (D (73, .aload_n 0, 1) (mg 42 rfl)) rfl rfl ?_
                          refine X_iload_n C 2 (D (74, .iload_n 2, 1) (mg 43 rfl)) rfl rfl ?_
                          refine X_cV (As := [.int (nI (a2))]) (st := []) C (post := _) (m) (by omega) hsm rfl (ct_X8_goAhead hw hM (by omega) (stH (stH (stH (haH h m) (m + 5) (c11)) (m + 5) (c23)) (m + 5) (c35)) g) kX8_152 (by decide) (by decide) rfl rfl (Nat.le_of_ble_eq_true rfl) (D (75, .invokevirtual 152, 3) (mg 44 rfl)) rfl (fun v42 H40 G41 hv42 => ?_)
                          obtain ⟨rfl, rfl, rfl⟩ := hv42
                          show X k w _ 78 [some (.ref (wA w (m))), some (.int (nI (a1))), some (.int (nI (a2))), some (.int (nI (3))), some (.int (nI ((a1) % (4))))] [] (wkN (m + 5) (a2) (stH (stH (stH (haH h m) (m + 5) (c11)) (m + 5) (c23)) (m + 5) (c35))) g
                          refine X_aload_n C 0 (D (78, .aload_n 0, 1) (mg 45 rfl)) rfl rfl ?_
                          refine X_get (v := .ref (wA w (m + 5))) C (m) 6 (by omega) hsm rfl rfl (by decide) inX8 fX8_27 rfl (D (79, .getfield 27, 3) (mg 46 rfl)) rfl ?_
                          refine X_iconst (v := nI (1)) C (D (82, .iconst 1, 1) (mg 47 rfl)) (by decide) ?_
                          refine X_cS (As := [.ref (wA w (m + 5)), .int (nI (1))]) (st := []) C (post := _) (ct_X8_manyAtLeast hw (⟨by omega, hs5, by omega, by omega⟩ : rw56 w (m + 5) 56) (nI (1)) (wkN (m + 5) (a2) (stH (stH (stH (haH h m) (m + 5) (c11)) (m + 5) (c23)) (m + 5) (c35))) g) kX8_143 (by decide) (by decide) rfl rfl (Nat.le_of_ble_eq_true rfl) (D (83, .invokestatic 143, 3) (mg 48 rfl)) rfl (fun v45 H43 G44 hv45 => ?_)
                          obtain ⟨rfl, rfl, rfl⟩ := hv45
                          show X k w _ 86 [some (.ref (wA w (m))), some (.int (nI (a1))), some (.int (nI (a2))), some (.int (nI (3))), some (.int (nI ((a1) % (4))))] [.int (nI (cn (fun c => ¬ hiV ((wkN (m + 5) (a2) (stH (stH (stH (haH h m) (m + 5) (c11)) (m + 5) (c23)) (m + 5) (c35))) (m + 5) (3 + c)) < nI (1)) 25))] (wkN (m + 5) (a2) (stH (stH (stH (haH h m) (m + 5) (c11)) (m + 5) (c23)) (m + 5) (c35))) g
                          refine X_ti (y := nI (0)) (congrArg nI (em_1 (em_wkN _ (em_st (by omega) (em_st (by omega) (em_st (by omega) (em_ha hF))))))) ?_
                          exact X_iret C (D (86, .ireturn, 1) (mg 49 rfl)) (pG_i (if_pos (by (unfold vld; rw [hbc1, hbc2, hbc3]; exact ⟨hcc1, hcc2, hcc3⟩))) (fun q i z => by rw [wkN_ne _ (by omega), stH_ne _ _ _ (by omega), stH_ne _ _ _ (by omega), stH_ne _ _ _ (by omega), haH_ne _ _ (by omega)]))
                        · skip
                          exact absurd q39 (by decide)
                      · skip
                        subst q34
                        have ex3_ := ey33
                        rw [bs_all (c23) (by omega) ((a1) % (4)) (by omega)] at ex3_
                        have hbm_ := bs_m ex3_
                        refine X_iconst (v := (-1 : Int32)) C (D (56, .iconst (-1), 1) (mg 34 rfl)) (by decide) ?_
                        exact X_iret C (D (57, .ireturn, 1) (mg 35 rfl)) (pG_i (if_neg (fun u_ => by (have w_ := u_.2.2; rw [hbc1, hbc2] at w_; exact hbm_ w_))) (fun q i z => by rw [stH_ne _ _ _ (by omega), stH_ne _ _ _ (by omega), haH_ne _ _ (by omega)]))
                    · skip
                      exact absurd q29 (by decide)
                  · skip
                    exact absurd q28 (by decide)
              · skip
                subst q22
                have ex2_ := ey21
                rw [bs_all (c11) (by omega) (((a1) / (4)) % (4)) (by omega)] at ex2_
                have hbm_ := bs_m ex2_
                refine X_iconst (v := (-1 : Int32)) C (D (56, .iconst (-1), 1) (mg 34 rfl)) (by decide) ?_
                exact X_iret C (D (57, .ireturn, 1) (mg 35 rfl)) (pG_i (if_neg (fun u_ => by (have w_ := u_.2.1; rw [hbc1] at w_; exact hbm_ w_))) (fun q i z => by rw [stH_ne _ _ _ (by omega), haH_ne _ _ (by omega)]))
          · skip
            exact absurd q16 (by decide)
      · skip
        subst q10
        have ex1_ := ey9
        rw [bs_all (0) (by omega) ((a1) / (16)) (by omega)] at ex1_
        have hbm_ := bs_m ex1_
        refine X_iconst (v := (-1 : Int32)) C (D (56, .iconst (-1), 1) (mg 34 rfl)) (by decide) ?_
        exact X_iret C (D (57, .ireturn, 1) (mg 35 rfl)) (pG_i (if_neg (fun u_ => by (exact hbm_ u_.1))) (fun q i z => by rw [haH_ne _ _ (by omega)]))
set_option maxHeartbeats 4000000 in
set_option maxRecDepth 100000 in
theorem cx_X8_three {l : Launch} {w : Kw} (hw : wOk w) {m : Nat} (hM : shM w m) (a1 : Int32) (a2 : Int32) (h : xI) (g : xJ) (hF : mFr m h) : Ct l w yX8_three cX8_three 7 (some .int) 5 115 [.ref (wA w (m)), .int (a1), .int (a2)] h g (pRo (if (0 ≤ a1.toInt ∧ a1.toInt ≤ 60) ∧ (0 ≤ a2.toInt ∧ a2.toInt < 2) then (if a2 = 0 then nI 0 else nI 111) else (-2 : Int32))) := by
  refine Ct_of (ls := [some (.ref (wA w (m))), some (.int (a1)), some (.int (a2)), none, none, none, none]) (by decide) hw (Nat.le_of_ble_eq_true rfl) rfl (fun k hkl C => ?_)
  have C : Cx k w cX8_three RX8 7 (some .int) 5 115 := C
  have D := dtX8_three
  subst hkl
  generalize hPP : (pRo (if (0 ≤ a1.toInt ∧ a1.toInt ≤ 60) ∧ (0 ≤ a2.toInt ∧ a2.toInt < 2) then (if a2 = 0 then nI 0 else nI 111) else (-2 : Int32))) = PP
  have hM0 := hM
  obtain ⟨hm, hsm, hs1, hs2, hs3, hs4, hs5, hs6, hs7, hs8, hs9, hs10, hs11⟩ := hM
  have hM := hM0
  have hF0 := hF
  obtain ⟨hZ, hTx, hRf⟩ := hF
  have hF := hF0
  refine X_iload_n C 1 (D (0, .iload_n 1, 1) (mg 0 rfl)) rfl rfl ?_
  refine X_i2l C (D (1, .i2l, 1) (mg 1 rfl)) ?_
  refine X_lconst (v := lN 0) C (D (2, .lconst 0, 1) (mg 2 rfl)) (by decide) ?_
  refine X_ldc2 C (D (3, .ldc2_w 138, 3) (mg 3 rfl)) vX8_138 ?_
  refine X_tl (y := lN (60)) rfl ?_
  refine X_cS (As := [.long ((a1).toInt64), .long (lN (0)), .long (lN (60))]) (st := []) C (post := _) (ct_X8_in hw ((a1).toInt64) (lN (0)) (lN (60)) h g) kX8_54 (by decide) (by decide) rfl rfl (Nat.le_of_ble_eq_true rfl) (D (6, .invokestatic 54, 3) (mg 4 rfl)) rfl (fun v3 H1 G2 hv3 => ?_)
  obtain ⟨rfl, rfl, rfl⟩ := hv3
  show X k w _ 9 [some (.ref (wA w (m))), some (.int (a1)), some (.int (a2)), none, none, none, none] [.int (if (lN (0)).toInt ≤ ((a1).toInt64).toInt ∧ ((a1).toInt64).toInt ≤ (lN (60)).toInt then 1 else 0)] h g
  refine X_if_eq (tgt := 22) C (D (9, .ifCond .eq 13, 3) (mg 5 rfl)) (by decide) (fun q4 => ?_) (fun q4 => ?_)
  · skip
    have q4 : ¬ ((lN (0)).toInt ≤ ((a1).toInt64).toInt ∧ ((a1).toInt64).toInt ≤ (lN (60)).toInt) := bz0.mp q4
    simp only [i6, pk_lT (n := 0) (by omega), pk_lT (n := 60) (by omega)] at q4
    refine X_aload_n C 0 (D (22, .aload_n 0, 1) (mg 12 rfl)) rfl rfl ?_
    refine X_bipush (v := (-2 : Int32)) C (D (23, .bipush (-2), 2) (mg 13 rfl)) (by decide) ?_
    refine X_cV (As := [.int ((-2 : Int32))]) (st := []) C (post := _) (m) (by omega) hsm rfl (ct_X8_bad hw hM ((-2 : Int32)) h g) kX8_75 (by decide) (by decide) rfl rfl (Nat.le_of_ble_eq_true rfl) (D (25, .invokevirtual 75, 3) (mg 14 rfl)) rfl (fun v7 H5 G6 hv7 => ?_)
    obtain ⟨rfl, rfl, rfl⟩ := hv7
    show X k w _ 28 [some (.ref (wA w (m))), some (.int (a1)), some (.int (a2)), none, none, none, none] [.int ((-2 : Int32))] (rfH h m 0) g
    exact X_iret C (D (28, .ireturn, 1) (mg 15 rfl)) (by rw [← hPP]; exact pRo_i (if_neg (by omega)))
  · skip
    have q4 : ((lN (0)).toInt ≤ ((a1).toInt64).toInt ∧ ((a1).toInt64).toInt ≤ (lN (60)).toInt) := bz1.mp q4
    simp only [i6, pk_lT (n := 0) (by omega), pk_lT (n := 60) (by omega)] at q4
    obtain ⟨n8, hn8, rfl⟩ := nI_i (x := a1) (n := 61) (by omega) (by omega)
    refine X_iload_n C 2 (D (12, .iload_n 2, 1) (mg 6 rfl)) rfl rfl ?_
    refine X_i2l C (D (13, .i2l, 1) (mg 7 rfl)) ?_
    refine X_lconst (v := lN 0) C (D (14, .lconst 0, 1) (mg 8 rfl)) (by decide) ?_
    refine X_lconst (v := lN 1) C (D (15, .lconst 1, 1) (mg 9 rfl)) (by decide) ?_
    refine X_cS (As := [.long ((a2).toInt64), .long (lN (0)), .long (lN (1))]) (st := []) C (post := _) (ct_X8_in hw ((a2).toInt64) (lN (0)) (lN (1)) h g) kX8_54 (by decide) (by decide) rfl rfl (Nat.le_of_ble_eq_true rfl) (D (16, .invokestatic 54, 3) (mg 10 rfl)) rfl (fun v11 H9 G10 hv11 => ?_)
    obtain ⟨rfl, rfl, rfl⟩ := hv11
    show X k w _ 19 [some (.ref (wA w (m))), some (.int (nI (n8))), some (.int (a2)), none, none, none, none] [.int (if (lN (0)).toInt ≤ ((a2).toInt64).toInt ∧ ((a2).toInt64).toInt ≤ (lN (1)).toInt then 1 else 0)] h g
    refine X_if_ne (tgt := 29) C (D (19, .ifCond .ne 10, 3) (mg 11 rfl)) (by decide) (fun q12 => ?_) (fun q12 => ?_)
    · skip
      have q12 : ((lN (0)).toInt ≤ ((a2).toInt64).toInt ∧ ((a2).toInt64).toInt ≤ (lN (1)).toInt) := bz1.mp q12
      simp only [i6, pk_lT (n := 0) (by omega), pk_lT (n := 1) (by omega)] at q12
      refine X_iconst (v := (-1 : Int32)) C (D (29, .iconst (-1), 1) (mg 16 rfl)) (by decide) ?_
      refine X_istore_n (ls' := [some (.ref (wA w (m))), some (.int (nI (n8))), some (.int (a2)), some (.int ((-1 : Int32))), none, none, none]) C 3 (D (30, .istore_n 3, 1) (mg 17 rfl)) rfl (Nat.le_of_ble_eq_true rfl) rfl ?_
      refine X_iconst (v := (-1 : Int32)) C (D (31, .iconst (-1), 1) (mg 18 rfl)) (by decide) ?_
      refine X_istore (ls' := [some (.ref (wA w (m))), some (.int (nI (n8))), some (.int (a2)), some (.int ((-1 : Int32))), some (.int ((-1 : Int32))), none, none]) C (D (32, .istore 4, 2) (mg 19 rfl)) (Nat.le_of_ble_eq_true rfl) rfl ?_
      refine X_iconst (v := nI (0)) C (D (34, .iconst 0, 1) (mg 20 rfl)) (by decide) ?_
      refine X_istore (ls' := [some (.ref (wA w (m))), some (.int (nI (n8))), some (.int (a2)), some (.int ((-1 : Int32))), some (.int ((-1 : Int32))), some (.int (nI (0))), none]) C (D (35, .istore 5, 2) (mg 21 rfl)) (Nat.le_of_ble_eq_true rfl) rfl ?_
      have lp37 : ∀ (nn37 : Nat) (j : Nat) (hp37 : xI) (gp37 : xJ), (j ≤ 64) → (mFr m hp37) → 65 - j ≤ nn37 → X k w (Zq k w (PP)) 37 [some (.ref (wA w (m))), some (.int (nI (n8))), some (.int (a2)), some (.int (thM (j))), some (.int (thC (j))), some (.int (nI (j))), none] [] hp37 gp37 := by
        intro nn37
        induction nn37 with
        | zero => intro j hp37 gp37 hc37_0 hc37_1 hz; exact absurd hz (by omega)
        | succ nn37 ih37 =>
          intro j hp37 gp37 hc37_0 hc37_1 hz37
          refine X_iload C (D (37, .iload 5, 2) (mg 22 rfl)) rfl ?_
          refine X_bipush (v := nI (64)) C (D (39, .bipush 64, 2) (mg 23 rfl)) (by decide) ?_
          refine X_icmp_ge (tgt := 87) C (D (41, .if_icmp .ge 46, 3) (mg 24 rfl)) (by decide) (fun q13 => ?_) (fun q13 => ?_)
          · skip
            have q13 : (j) ≥ (64) := by have z := (nI_leI (a := (64)) (b := (j)) (by omega) (by omega)).mp q13; omega
            refine X_iload_n C 2 (D (87, .iload_n 2, 1) (mg 46 rfl)) rfl rfl ?_
            refine X_if_ne (tgt := 95) C (D (88, .ifCond .ne 7, 3) (mg 47 rfl)) (by decide) (fun q14 => ?_) (fun q14 => ?_)
            · skip
              refine X_bipush (v := nI (100)) C (D (95, .bipush 100, 2) (mg 50 rfl)) (by decide) ?_
              refine X_iload C (D (97, .iload 4, 2) (mg 51 rfl)) rfl ?_
              refine X_bipush (v := nI (16)) C (D (99, .bipush 16, 2) (mg 52 rfl)) (by decide) ?_
              refine X_idiv C (D (101, .idiv, 1) (mg 53 rfl)) (by decide) ?_
              refine X_ti (y := nI (1)) (by rw [show j = 64 by omega, th_65]; decide) ?_
              refine X_imul C (D (102, .imul, 1) (mg 54 rfl)) ?_
              refine X_ti (y := nI ((100) * (1))) (pk_mul (100) (1)) ?_
              refine X_bipush (v := nI (10)) C (D (103, .bipush 10, 2) (mg 55 rfl)) (by decide) ?_
              refine X_iload C (D (105, .iload 4, 2) (mg 56 rfl)) rfl ?_
              refine X_iconst (v := nI (4)) C (D (107, .iconst 4, 1) (mg 57 rfl)) (by decide) ?_
              refine X_idiv C (D (108, .idiv, 1) (mg 58 rfl)) (by decide) ?_
              refine X_ti (y := nI (5)) (by rw [show j = 64 by omega, th_65]; decide) ?_
              refine X_iconst (v := nI (4)) C (D (109, .iconst 4, 1) (mg 59 rfl)) (by decide) ?_
              refine X_irem C (D (110, .irem, 1) (mg 60 rfl)) (by decide) ?_
              refine X_ti (y := nI (1)) (by decide) ?_
              refine X_imul C (D (111, .imul, 1) (mg 61 rfl)) ?_
              refine X_ti (y := nI ((10) * (1))) (pk_mul (10) (1)) ?_
              refine X_iadd C (D (112, .iadd, 1) (mg 62 rfl)) ?_
              refine X_ti (y := nI ((100) * (1) + (10) * (1))) (nI_add ((100) * (1)) ((10) * (1))) ?_
              refine X_iload C (D (113, .iload 4, 2) (mg 63 rfl)) rfl ?_
              refine X_iconst (v := nI (4)) C (D (115, .iconst 4, 1) (mg 64 rfl)) (by decide) ?_
              refine X_irem C (D (116, .irem, 1) (mg 65 rfl)) (by decide) ?_
              refine X_ti (y := nI (1)) (by rw [show j = 64 by omega, th_65]; decide) ?_
              refine X_iadd C (D (117, .iadd, 1) (mg 66 rfl)) ?_
              refine X_ti (y := nI ((100) * (1) + (10) * (1) + 1)) (nI_add ((100) * (1) + (10) * (1)) (1)) ?_
              exact X_iret C (D (118, .ireturn, 1) (mg 67 rfl)) (by rw [← hPP]; exact pRo_i ((if_pos (by omega)).trans ((if_neg (by assumption)).trans rfl)))
            · skip
              refine X_iload_n C 3 (D (91, .iload_n 3, 1) (mg 48 rfl)) rfl rfl ?_
              refine X_goto (tgt := 118) C (D (92, .goto 26, 3) (mg 49 rfl)) (by decide) ?_
              exact X_iret C (D (118, .ireturn, 1) (mg 67 rfl)) (by rw [← hPP]; exact pRo_i ((if_pos (by omega)).trans (by rw [show j = 64 by omega]; exact (if_pos (by assumption)).trans th_64.1.symm)))
          · skip
            have q13 : (j) < (64) := by have z : ¬ ((64) ≤ (j)) := fun u => q13 ((nI_leI (a := (64)) (b := (j)) (by omega) (by omega)).mpr u); omega
            refine X_aload_n C 0 (D (44, .aload_n 0, 1) (mg 25 rfl)) rfl rfl ?_
            refine X_iload C (D (45, .iload 5, 2) (mg 26 rfl)) rfl ?_
            refine X_iload_n C 1 (D (47, .iload_n 1, 1) (mg 27 rfl)) rfl rfl ?_
            refine X_cV (As := [.int (nI (j)), .int (nI (n8))]) (st := []) C (post := _) (m) (by omega) hsm rfl (cx_X8_greenBy hw hM (a1 := j) (by omega) (a2 := n8) (by omega) hp37 gp37 hc37_1) kX8_177 (by decide) (by decide) rfl rfl (Nat.le_of_ble_eq_true rfl) (D (48, .invokevirtual 177, 3) (mg 28 rfl)) rfl (fun v17 H15 G16 hv17 => ?_)
            obtain ⟨rfl, f18⟩ := hv17
            show X k w _ 51 [some (.ref (wA w (m))), some (.int (nI (n8))), some (.int (a2)), some (.int (thM (j))), some (.int (thC (j))), some (.int (nI (j))), none] [.int (gbI (j))] H15 G16
            refine X_istore (ls' := [some (.ref (wA w (m))), some (.int (nI (n8))), some (.int (a2)), some (.int (thM (j))), some (.int (thC (j))), some (.int (nI (j))), some (.int (gbI (j)))]) C (D (51, .istore 6, 2) (mg 29 rfl)) (Nat.le_of_ble_eq_true rfl) rfl ?_
            refine X_iload C (D (53, .iload 6, 2) (mg 30 rfl)) rfl ?_
            refine X_iload_n C 3 (D (55, .iload_n 3, 1) (mg 31 rfl)) rfl rfl ?_
            refine X_icmp_le (tgt := 64) C (D (56, .if_icmp .le 8, 3) (mg 32 rfl)) (by decide) (fun q19 => ?_) (fun q19 => ?_)
            · skip
              refine X_iload C (D (64, .iload 4, 2) (mg 35 rfl)) rfl ?_
              refine X_istore (ls' := [some (.ref (wA w (m))), some (.int (nI (n8))), some (.int (a2)), some (.int (thM (j))), some (.int (thC (j))), some (.int (nI (j))), some (.int (gbI (j)))]) C (D (66, .istore 4, 2) (mg 36 rfl)) (Nat.le_of_ble_eq_true rfl) rfl ?_
              refine X_iload C (D (68, .iload 6, 2) (mg 37 rfl)) rfl ?_
              refine X_iload_n C 3 (D (70, .iload_n 3, 1) (mg 38 rfl)) rfl rfl ?_
              refine X_icmp_le (tgt := 79) C (D (71, .if_icmp .le 8, 3) (mg 39 rfl)) (by decide) (fun q20 => ?_) (fun q20 => ?_)
              · skip
                refine X_iload_n C 3 (D (79, .iload_n 3, 1) (mg 42 rfl)) rfl rfl ?_
                refine X_istore_n (ls' := [some (.ref (wA w (m))), some (.int (nI (n8))), some (.int (a2)), some (.int (thM (j))), some (.int (thC (j))), some (.int (nI (j))), some (.int (gbI (j)))]) C 3 (D (80, .istore_n 3, 1) (mg 43 rfl)) rfl (Nat.le_of_ble_eq_true rfl) rfl ?_
                refine X_iinc (v := nI (j + 1)) (ls' := [some (.ref (wA w (m))), some (.int (nI (n8))), some (.int (a2)), some (.int (thM (j))), some (.int (thC (j))), some (.int (nI (j + 1))), some (.int (gbI (j)))]) C (D (81, .iinc 5 1, 3) (mg 44 rfl)) rfl (nI_add (j) 1) rfl ?_
                refine X_goto (tgt := 37) C (D (84, .goto (-47), 3) (mg 45 rfl)) (by decide) ?_
                refine X_los (ls' := [some (.ref (wA w (m))), some (.int (nI (n8))), some (.int (a2)), some (.int (thM (j))), some (.int (thC (j))), some (.int (nI (j + 1))), none]) (by simp [lsub]) ?_
                refine X_eq (ls' := [some (.ref (wA w (m))), some (.int (nI (n8))), some (.int (a2)), some (.int (thM (j + 1))), some (.int (thC (j + 1))), some (.int (nI (j + 1))), none]) (st' := []) (h' := H15) (g' := G16) (by rw [show thM (j) = thM (j + 1) from (if_pos (by assumption)).symm, show thC (j) = thC (j + 1) from (if_pos (by assumption)).symm]) rfl rfl rfl ?_
                exact ih37 (j + 1) (H15) (G16) (by omega) (mFr_k (fun q i z => by rw [f18 _ _ (by omega)]) hc37_1) (by omega)
              · skip
                exact absurd (by assumption) q20
            · skip
              refine X_iload C (D (59, .iload 5, 2) (mg 33 rfl)) rfl ?_
              refine X_goto (tgt := 66) C (D (61, .goto 5, 3) (mg 34 rfl)) (by decide) ?_
              refine X_istore (ls' := [some (.ref (wA w (m))), some (.int (nI (n8))), some (.int (a2)), some (.int (thM (j))), some (.int (nI (j))), some (.int (nI (j))), some (.int (gbI (j)))]) C (D (66, .istore 4, 2) (mg 36 rfl)) (Nat.le_of_ble_eq_true rfl) rfl ?_
              refine X_iload C (D (68, .iload 6, 2) (mg 37 rfl)) rfl ?_
              refine X_iload_n C 3 (D (70, .iload_n 3, 1) (mg 38 rfl)) rfl rfl ?_
              refine X_icmp_le (tgt := 79) C (D (71, .if_icmp .le 8, 3) (mg 39 rfl)) (by decide) (fun q21 => ?_) (fun q21 => ?_)
              · skip
                exact absurd q21 (by assumption)
              · skip
                refine X_iload C (D (74, .iload 6, 2) (mg 40 rfl)) rfl ?_
                refine X_goto (tgt := 80) C (D (76, .goto 4, 3) (mg 41 rfl)) (by decide) ?_
                refine X_istore_n (ls' := [some (.ref (wA w (m))), some (.int (nI (n8))), some (.int (a2)), some (.int (gbI (j))), some (.int (nI (j))), some (.int (nI (j))), some (.int (gbI (j)))]) C 3 (D (80, .istore_n 3, 1) (mg 43 rfl)) rfl (Nat.le_of_ble_eq_true rfl) rfl ?_
                refine X_iinc (v := nI (j + 1)) (ls' := [some (.ref (wA w (m))), some (.int (nI (n8))), some (.int (a2)), some (.int (gbI (j))), some (.int (nI (j))), some (.int (nI (j + 1))), some (.int (gbI (j)))]) C (D (81, .iinc 5 1, 3) (mg 44 rfl)) rfl (nI_add (j) 1) rfl ?_
                refine X_goto (tgt := 37) C (D (84, .goto (-47), 3) (mg 45 rfl)) (by decide) ?_
                refine X_los (ls' := [some (.ref (wA w (m))), some (.int (nI (n8))), some (.int (a2)), some (.int (gbI (j))), some (.int (nI (j))), some (.int (nI (j + 1))), none]) (by simp [lsub]) ?_
                refine X_eq (ls' := [some (.ref (wA w (m))), some (.int (nI (n8))), some (.int (a2)), some (.int (thM (j + 1))), some (.int (thC (j + 1))), some (.int (nI (j + 1))), none]) (st' := []) (h' := H15) (g' := G16) (by rw [show gbI (j) = thM (j + 1) from (if_neg (by assumption)).symm, show nI (j) = thC (j + 1) from (if_neg (by assumption)).symm]) rfl rfl rfl ?_
                exact ih37 (j + 1) (H15) (G16) (by omega) (mFr_k (fun q i z => by rw [f18 _ _ (by omega)]) hc37_1) (by omega)
      refine X_eq (ls' := [some (.ref (wA w (m))), some (.int (nI (n8))), some (.int (a2)), some (.int (thM (0))), some (.int (thC (0))), some (.int (nI (0))), none]) (st' := []) (h' := h) (g' := g) rfl rfl rfl rfl ?_
      exact lp37 _ (0) (h) (g) (by omega) hF (Nat.le_refl _)
    · skip
      have q12 : ¬ ((lN (0)).toInt ≤ ((a2).toInt64).toInt ∧ ((a2).toInt64).toInt ≤ (lN (1)).toInt) := bz0.mp q12
      simp only [i6, pk_lT (n := 0) (by omega), pk_lT (n := 1) (by omega)] at q12
      refine X_aload_n C 0 (D (22, .aload_n 0, 1) (mg 12 rfl)) rfl rfl ?_
      refine X_bipush (v := (-2 : Int32)) C (D (23, .bipush (-2), 2) (mg 13 rfl)) (by decide) ?_
      refine X_cV (As := [.int ((-2 : Int32))]) (st := []) C (post := _) (m) (by omega) hsm rfl (ct_X8_bad hw hM ((-2 : Int32)) h g) kX8_75 (by decide) (by decide) rfl rfl (Nat.le_of_ble_eq_true rfl) (D (25, .invokevirtual 75, 3) (mg 14 rfl)) rfl (fun v24 H22 G23 hv24 => ?_)
      obtain ⟨rfl, rfl, rfl⟩ := hv24
      show X k w _ 28 [some (.ref (wA w (m))), some (.int (nI (n8))), some (.int (a2)), none, none, none, none] [.int ((-2 : Int32))] (rfH h m 0) g
      exact X_iret C (D (28, .ireturn, 1) (mg 15 rfl)) (by rw [← hPP]; exact pRo_i (if_neg (by omega)))
set_option maxHeartbeats 4000000 in
set_option maxRecDepth 100000 in
theorem cx_X8_rests {l : Launch} {w : Kw} (hw : wOk w) {m : Nat} (hM : shM w m) {r1 : Nat} (hr1 : r1 < 5) {i1 : Nat} (hi1 : i1 < 5) {j1 : Nat} (hj1 : j1 < 5) (h : xI) (g : xJ) (hF : mFr m h) : Ct l w yX8_rests cX8_rests 6 (some .boolean) 3 69 [.ref (wA w (m)), .int (nI (r1)), .int (nI (i1)), .int (nI (j1))] h g (px (some (.int (nI 1))) h g) := by
  refine Ct_of (ls := [some (.ref (wA w (m))), some (.int (nI (r1))), some (.int (nI (i1))), some (.int (nI (j1))), none, none]) (by decide) hw (Nat.le_of_ble_eq_true rfl) rfl (fun k hkl C => ?_)
  have C : Cx k w cX8_rests RX8 6 (some .boolean) 3 69 := C
  have D := dtX8_rests
  subst hkl
  have hM0 := hM
  obtain ⟨hm, hsm, hs1, hs2, hs3, hs4, hs5, hs6, hs7, hs8, hs9, hs10, hs11⟩ := hM
  have hM := hM0
  have hF0 := hF
  obtain ⟨hZ, hTx, hRf⟩ := hF
  have hF := hF0
  refine X_iconst (v := nI (1)) C (D (0, .iconst 1, 1) (mg 0 rfl)) (by decide) ?_
  refine X_istore (ls' := [some (.ref (wA w (m))), some (.int (nI (r1))), some (.int (nI (i1))), some (.int (nI (j1))), some (.int (nI (1))), none]) C (D (1, .istore 4, 2) (mg 1 rfl)) (Nat.le_of_ble_eq_true rfl) rfl ?_
  refine X_iconst (v := nI (0)) C (D (3, .iconst 0, 1) (mg 2 rfl)) (by decide) ?_
  refine X_istore (ls' := [some (.ref (wA w (m))), some (.int (nI (r1))), some (.int (nI (i1))), some (.int (nI (j1))), some (.int (nI (1))), some (.int (nI (0)))]) C (D (4, .istore 5, 2) (mg 3 rfl)) (Nat.le_of_ble_eq_true rfl) rfl ?_
  have lp6 : ∀ (nn6 : Nat) (j : Nat), (j ≤ 5) → 6 - j ≤ nn6 → X k w (Zq k w (px (some (.int (nI 1))) h g)) 6 [some (.ref (wA w (m))), some (.int (nI (r1))), some (.int (nI (i1))), some (.int (nI (j1))), some (.int (nI (1))), some (.int (nI (j)))] [] h g := by
    intro nn6
    induction nn6 with
    | zero => intro j hc6_0 hz; exact absurd hz (by omega)
    | succ nn6 ih6 =>
      intro j hc6_0 hz6
      refine X_iload C (D (6, .iload 5, 2) (mg 4 rfl)) rfl ?_
      refine X_iconst (v := nI (5)) C (D (8, .iconst 5, 1) (mg 5 rfl)) (by decide) ?_
      refine X_icmp_ge (tgt := 66) C (D (9, .if_icmp .ge 57, 3) (mg 6 rfl)) (by decide) (fun q1 => ?_) (fun q1 => ?_)
      · skip
        have q1 : (j) ≥ (5) := by have z := (nI_leI (a := (5)) (b := (j)) (by omega) (by omega)).mp q1; omega
        refine X_iload C (D (66, .iload 4, 2) (mg 37 rfl)) rfl ?_
        exact X_zret C (D (68, .ireturn, 1) (mg 38 rfl)) rfl ⟨rfl, rfl, rfl⟩
      · skip
        have q1 : (j) < (5) := by have z : ¬ ((5) ≤ (j)) := fun u => q1 ((nI_leI (a := (5)) (b := (j)) (by omega) (by omega)).mpr u); omega
        refine X_iload C (D (12, .iload 4, 2) (mg 7 rfl)) rfl ?_
        refine X_if_eq (tgt := 57) C (D (14, .ifCond .eq 43, 3) (mg 8 rfl)) (by decide) (fun q2 => ?_) (fun q2 => ?_)
        · skip
          exact absurd q2 (by decide)
        · skip
          refine X_aload_n C 0 (D (17, .aload_n 0, 1) (mg 9 rfl)) rfl rfl ?_
          refine X_iload_n C 1 (D (18, .iload_n 1, 1) (mg 10 rfl)) rfl rfl ?_
          refine X_iload C (D (19, .iload 5, 2) (mg 11 rfl)) rfl ?_
          refine X_iload_n C 3 (D (21, .iload_n 3, 1) (mg 12 rfl)) rfl rfl ?_
          refine X_cV (As := [.int (nI (r1)), .int (nI (j)), .int (nI (j1))]) (st := []) C (post := _) (m) (by omega) hsm rfl (ct_X8_toCurate hw hM (a := r1) (b := j) (d := j1) (by omega) (by omega) (by omega) h g) kX8_200 (by decide) (by decide) rfl rfl (Nat.le_of_ble_eq_true rfl) (D (22, .invokevirtual 200, 3) (mg 13 rfl)) rfl (fun v5 H3 G4 hv5 => ?_)
          obtain ⟨rfl, rfl, rfl⟩ := hv5
          show X k w _ 25 [some (.ref (wA w (m))), some (.int (nI (r1))), some (.int (nI (i1))), some (.int (nI (j1))), some (.int (nI (1))), some (.int (nI (j)))] [.int (cuP (h (m + 1) (3 + (5 * (r1) + (j)))) (spP (h (m + 1) (3 + (5 * (r1) + (j1)))) (j) (j1)))] h g
          refine X_ti (y := nI (0)) (by rw [hZ _ (by omega), hZ _ (by omega), sp_0]; exact cu_0) ?_
          refine X_aload_n C 0 (D (25, .aload_n 0, 1) (mg 14 rfl)) rfl rfl ?_
          refine X_iload_n C 1 (D (26, .iload_n 1, 1) (mg 15 rfl)) rfl rfl ?_
          refine X_iload_n C 2 (D (27, .iload_n 2, 1) (mg 16 rfl)) rfl rfl ?_
          refine X_iload_n C 3 (D (28, .iload_n 3, 1) (mg 17 rfl)) rfl rfl ?_
          refine X_cV (As := [.int (nI (r1)), .int (nI (i1)), .int (nI (j1))]) (st := [.int (nI (0))]) C (post := _) (m) (by omega) hsm rfl (ct_X8_toCurate hw hM (a := r1) (b := i1) (d := j1) (by omega) (by omega) (by omega) h g) kX8_200 (by decide) (by decide) rfl rfl (Nat.le_of_ble_eq_true rfl) (D (29, .invokevirtual 200, 3) (mg 18 rfl)) rfl (fun v8 H6 G7 hv8 => ?_)
          obtain ⟨rfl, rfl, rfl⟩ := hv8
          show X k w _ 32 [some (.ref (wA w (m))), some (.int (nI (r1))), some (.int (nI (i1))), some (.int (nI (j1))), some (.int (nI (1))), some (.int (nI (j)))] [.int (cuP (h (m + 1) (3 + (5 * (r1) + (i1)))) (spP (h (m + 1) (3 + (5 * (r1) + (j1)))) (i1) (j1))), .int (nI (0))] h g
          refine X_ti (y := nI (0)) (by rw [hZ _ (by omega), hZ _ (by omega), sp_0]; exact cu_0) ?_
          refine X_icmp_gt (tgt := 57) C (D (32, .if_icmp .gt 25, 3) (mg 19 rfl)) (by decide) (fun q9 => ?_) (fun q9 => ?_)
          · skip
            exact absurd q9 (by decide)
          · skip
            refine X_aload_n C 0 (D (35, .aload_n 0, 1) (mg 20 rfl)) rfl rfl ?_
            refine X_iload_n C 1 (D (36, .iload_n 1, 1) (mg 21 rfl)) rfl rfl ?_
            refine X_iload_n C 2 (D (37, .iload_n 2, 1) (mg 22 rfl)) rfl rfl ?_
            refine X_iload C (D (38, .iload 5, 2) (mg 23 rfl)) rfl ?_
            refine X_cV (As := [.int (nI (r1)), .int (nI (i1)), .int (nI (j))]) (st := []) C (post := _) (m) (by omega) hsm rfl (ct_X8_toSparrow hw hM (a := r1) (b := i1) (d := j) (by omega) (by omega) (by omega) h g) kX8_197 (by decide) (by decide) rfl rfl (Nat.le_of_ble_eq_true rfl) (D (40, .invokevirtual 197, 3) (mg 24 rfl)) rfl (fun v12 H10 G11 hv12 => ?_)
            obtain ⟨rfl, rfl, rfl⟩ := hv12
            show X k w _ 43 [some (.ref (wA w (m))), some (.int (nI (r1))), some (.int (nI (i1))), some (.int (nI (j1))), some (.int (nI (1))), some (.int (nI (j)))] [.int (spP (h (m + 1) (3 + (5 * (r1) + (j)))) (i1) (j))] h g
            refine X_ti (y := (-1 : Int32)) (by rw [hZ _ (by omega)]; exact sp_0 _ _) ?_
            refine X_aload_n C 0 (D (43, .aload_n 0, 1) (mg 25 rfl)) rfl rfl ?_
            refine X_iload_n C 1 (D (44, .iload_n 1, 1) (mg 26 rfl)) rfl rfl ?_
            refine X_iload_n C 2 (D (45, .iload_n 2, 1) (mg 27 rfl)) rfl rfl ?_
            refine X_iload_n C 3 (D (46, .iload_n 3, 1) (mg 28 rfl)) rfl rfl ?_
            refine X_cV (As := [.int (nI (r1)), .int (nI (i1)), .int (nI (j1))]) (st := [.int ((-1 : Int32))]) C (post := _) (m) (by omega) hsm rfl (ct_X8_toSparrow hw hM (a := r1) (b := i1) (d := j1) (by omega) (by omega) (by omega) h g) kX8_197 (by decide) (by decide) rfl rfl (Nat.le_of_ble_eq_true rfl) (D (47, .invokevirtual 197, 3) (mg 29 rfl)) rfl (fun v15 H13 G14 hv15 => ?_)
            obtain ⟨rfl, rfl, rfl⟩ := hv15
            show X k w _ 50 [some (.ref (wA w (m))), some (.int (nI (r1))), some (.int (nI (i1))), some (.int (nI (j1))), some (.int (nI (1))), some (.int (nI (j)))] [.int (spP (h (m + 1) (3 + (5 * (r1) + (j1)))) (i1) (j1)), .int ((-1 : Int32))] h g
            refine X_ti (y := (-1 : Int32)) (by rw [hZ _ (by omega)]; exact sp_0 _ _) ?_
            refine X_icmp_gt (tgt := 57) C (D (50, .if_icmp .gt 7, 3) (mg 30 rfl)) (by decide) (fun q16 => ?_) (fun q16 => ?_)
            · skip
              exact absurd q16 (by decide)
            · skip
              refine X_iconst (v := nI (1)) C (D (53, .iconst 1, 1) (mg 31 rfl)) (by decide) ?_
              refine X_goto (tgt := 58) C (D (54, .goto 4, 3) (mg 32 rfl)) (by decide) ?_
              refine X_istore (ls' := [some (.ref (wA w (m))), some (.int (nI (r1))), some (.int (nI (i1))), some (.int (nI (j1))), some (.int (nI (1))), some (.int (nI (j)))]) C (D (58, .istore 4, 2) (mg 34 rfl)) (Nat.le_of_ble_eq_true rfl) rfl ?_
              refine X_iinc (v := nI (j + 1)) (ls' := [some (.ref (wA w (m))), some (.int (nI (r1))), some (.int (nI (i1))), some (.int (nI (j1))), some (.int (nI (1))), some (.int (nI (j + 1)))]) C (D (60, .iinc 5 1, 3) (mg 35 rfl)) rfl (nI_add (j) 1) rfl ?_
              refine X_goto (tgt := 6) C (D (63, .goto (-57), 3) (mg 36 rfl)) (by decide) ?_
              refine X_eq (ls' := [some (.ref (wA w (m))), some (.int (nI (r1))), some (.int (nI (i1))), some (.int (nI (j1))), some (.int (nI (1))), some (.int (nI (j + 1)))]) (st' := []) (h' := h) (g' := g) rfl rfl rfl rfl ?_
              exact ih6 (j + 1) (by omega) (by omega)
  refine X_eq (ls' := [some (.ref (wA w (m))), some (.int (nI (r1))), some (.int (nI (i1))), some (.int (nI (j1))), some (.int (nI (1))), some (.int (nI (0)))]) (st' := []) (h' := h) (g' := g) rfl rfl rfl rfl ?_
  exact lp6 _ (0) (by omega) (Nat.le_refl _)
set_option maxHeartbeats 4000000 in
set_option maxRecDepth 100000 in
theorem cx_X8_sparrow {l : Launch} {w : Kw} (hw : wOk w) {m : Nat} (hM : shM w m) (a1 : Int32) (a2 : Int32) (h : xI) (g : xJ) (hF : mFr m h) : Ct l w yX8_sparrow cX8_sparrow 6 (some .int) 4 94 [.ref (wA w (m)), .int (a1), .int (a2)] h g (pRo (if (0 ≤ a1.toInt ∧ a1.toInt < 5) ∧ -1 ≤ a2.toInt then spY a2 else (-10 : Int32))) := by
  refine Ct_of (ls := [some (.ref (wA w (m))), some (.int (a1)), some (.int (a2)), none, none, none]) (by decide) hw (Nat.le_of_ble_eq_true rfl) rfl (fun k hkl C => ?_)
  have C : Cx k w cX8_sparrow RX8 6 (some .int) 4 94 := C
  have D := dtX8_sparrow
  subst hkl
  generalize hPP : (pRo (if (0 ≤ a1.toInt ∧ a1.toInt < 5) ∧ -1 ≤ a2.toInt then spY a2 else (-10 : Int32))) = PP
  have hM0 := hM
  obtain ⟨hm, hsm, hs1, hs2, hs3, hs4, hs5, hs6, hs7, hs8, hs9, hs10, hs11⟩ := hM
  have hM := hM0
  have hF0 := hF
  obtain ⟨hZ, hTx, hRf⟩ := hF
  have hF := hF0
  refine X_iload_n C 1 (D (0, .iload_n 1, 1) (mg 0 rfl)) rfl rfl ?_
  refine X_i2l C (D (1, .i2l, 1) (mg 1 rfl)) ?_
  refine X_lconst (v := lN 0) C (D (2, .lconst 0, 1) (mg 2 rfl)) (by decide) ?_
  refine X_ldc2 C (D (3, .ldc2_w 60, 3) (mg 3 rfl)) vX8_60 ?_
  refine X_tl (y := lN (4)) rfl ?_
  refine X_cS (As := [.long ((a1).toInt64), .long (lN (0)), .long (lN (4))]) (st := []) C (post := _) (ct_X8_in hw ((a1).toInt64) (lN (0)) (lN (4)) h g) kX8_54 (by decide) (by decide) rfl rfl (Nat.le_of_ble_eq_true rfl) (D (6, .invokestatic 54, 3) (mg 4 rfl)) rfl (fun v3 H1 G2 hv3 => ?_)
  obtain ⟨rfl, rfl, rfl⟩ := hv3
  show X k w _ 9 [some (.ref (wA w (m))), some (.int (a1)), some (.int (a2)), none, none, none] [.int (if (lN (0)).toInt ≤ ((a1).toInt64).toInt ∧ ((a1).toInt64).toInt ≤ (lN (4)).toInt then 1 else 0)] h g
  refine X_if_eq (tgt := 17) C (D (9, .ifCond .eq 8, 3) (mg 5 rfl)) (by decide) (fun q4 => ?_) (fun q4 => ?_)
  · skip
    have q4 : ¬ ((lN (0)).toInt ≤ ((a1).toInt64).toInt ∧ ((a1).toInt64).toInt ≤ (lN (4)).toInt) := bz0.mp q4
    simp only [i6, pk_lT (n := 0) (by omega), pk_lT (n := 4) (by omega)] at q4
    refine X_aload_n C 0 (D (17, .aload_n 0, 1) (mg 9 rfl)) rfl rfl ?_
    refine X_bipush (v := (-10 : Int32)) C (D (18, .bipush (-10), 2) (mg 10 rfl)) (by decide) ?_
    refine X_cV (As := [.int ((-10 : Int32))]) (st := []) C (post := _) (m) (by omega) hsm rfl (ct_X8_bad hw hM ((-10 : Int32)) h g) kX8_75 (by decide) (by decide) rfl rfl (Nat.le_of_ble_eq_true rfl) (D (20, .invokevirtual 75, 3) (mg 11 rfl)) rfl (fun v7 H5 G6 hv7 => ?_)
    obtain ⟨rfl, rfl, rfl⟩ := hv7
    show X k w _ 23 [some (.ref (wA w (m))), some (.int (a1)), some (.int (a2)), none, none, none] [.int ((-10 : Int32))] (rfH h m 0) g
    exact X_iret C (D (23, .ireturn, 1) (mg 12 rfl)) (by rw [← hPP]; exact pRo_i (if_neg (fun u_ => by first | omega | exact hk9_ u_.2)))
  · skip
    have q4 : ((lN (0)).toInt ≤ ((a1).toInt64).toInt ∧ ((a1).toInt64).toInt ≤ (lN (4)).toInt) := bz1.mp q4
    simp only [i6, pk_lT (n := 0) (by omega), pk_lT (n := 4) (by omega)] at q4
    obtain ⟨n8, hn8, rfl⟩ := nI_i (x := a1) (n := 5) (by omega) (by omega)
    refine X_iload_n C 2 (D (12, .iload_n 2, 1) (mg 6 rfl)) rfl rfl ?_
    refine X_iconst (v := (-1 : Int32)) C (D (13, .iconst (-1), 1) (mg 7 rfl)) (by decide) ?_
    refine X_icmp_ge (tgt := 24) C (D (14, .if_icmp .ge 10, 3) (mg 8 rfl)) (by decide) (fun q9 => ?_) (fun q9 => ?_)
    · skip
      have hk9_ : -1 ≤ a2.toInt := by have z9 := Int32.le_iff_toInt_le.mp q9; rw [m1_i] at z9; exact z9
      refine X_iconst (v := nI (0)) C (D (24, .iconst 0, 1) (mg 13 rfl)) (by decide) ?_
      refine X_istore_n (ls' := [some (.ref (wA w (m))), some (.int (nI (n8))), some (.int (a2)), some (.int (nI (0))), none, none]) C 3 (D (25, .istore_n 3, 1) (mg 14 rfl)) rfl (Nat.le_of_ble_eq_true rfl) rfl ?_
      refine X_iconst (v := nI (0)) C (D (26, .iconst 0, 1) (mg 15 rfl)) (by decide) ?_
      refine X_istore (ls' := [some (.ref (wA w (m))), some (.int (nI (n8))), some (.int (a2)), some (.int (nI (0))), some (.int (nI (0))), none]) C (D (27, .istore 4, 2) (mg 16 rfl)) (Nat.le_of_ble_eq_true rfl) rfl ?_
      have lp29 : ∀ (nn29 : Nat) (i4 : Nat), (i4 ≤ 5) → (∀ e, e < 5 * i4 → ¬ nI e = a2) → 6 - i4 ≤ nn29 → X k w (Zq k w (PP)) 29 [some (.ref (wA w (m))), some (.int (nI (n8))), some (.int (a2)), some (.int (nI (5 * (i4)))), some (.int (nI (i4))), none] [] h g := by
        intro nn29
        induction nn29 with
        | zero => intro i4 hc29_0 hc29_1 hz; exact absurd hz (by omega)
        | succ nn29 ih29 =>
          intro i4 hc29_0 hc29_1 hz29
          refine X_iload C (D (29, .iload 4, 2) (mg 17 rfl)) rfl ?_
          refine X_iconst (v := nI (5)) C (D (31, .iconst 5, 1) (mg 18 rfl)) (by decide) ?_
          refine X_icmp_ge (tgt := 85) C (D (32, .if_icmp .ge 53, 3) (mg 19 rfl)) (by decide) (fun q10 => ?_) (fun q10 => ?_)
          · skip
            have q10 : (i4) ≥ (5) := by have z := (nI_leI (a := (5)) (b := (i4)) (by omega) (by omega)).mp q10; omega
            refine X_iload_n C 2 (D (85, .iload_n 2, 1) (mg 45 rfl)) rfl rfl ?_
            refine X_iconst (v := (-1 : Int32)) C (D (86, .iconst (-1), 1) (mg 46 rfl)) (by decide) ?_
            refine X_icmp_ne (tgt := 94) C (D (87, .if_icmp .ne 7, 3) (mg 47 rfl)) (by decide) (fun q11 => ?_) (fun q11 => ?_)
            · skip
              refine X_bipush (v := (-5 : Int32)) C (D (94, .bipush (-5), 2) (mg 50 rfl)) (by decide) ?_
              exact X_iret C (D (96, .ireturn, 1) (mg 51 rfl)) (by rw [← hPP]; exact pRo_i ((if_pos ⟨by omega, hk9_⟩).trans (spY_n (by assumption) (fun i hi => hc29_1 i (by omega)))))
            · skip
              refine X_iload_n C 3 (D (90, .iload_n 3, 1) (mg 48 rfl)) rfl rfl ?_
              refine X_goto (tgt := 96) C (D (91, .goto 5, 3) (mg 49 rfl)) (by decide) ?_
              exact X_iret C (D (96, .ireturn, 1) (mg 51 rfl)) (by rw [← hPP]; exact pRo_i ((if_pos ⟨by omega, hk9_⟩).trans (by rw [(by assumption : a2 = (-1 : Int32)), show i4 = 5 by omega]; rfl)))
          · skip
            have q10 : (i4) < (5) := by have z : ¬ ((5) ≤ (i4)) := fun u => q10 ((nI_leI (a := (5)) (b := (i4)) (by omega) (by omega)).mpr u); omega
            refine X_iconst (v := nI (0)) C (D (35, .iconst 0, 1) (mg 20 rfl)) (by decide) ?_
            refine X_istore (ls' := [some (.ref (wA w (m))), some (.int (nI (n8))), some (.int (a2)), some (.int (nI (5 * (i4)))), some (.int (nI (i4))), some (.int (nI (0)))]) C (D (36, .istore 5, 2) (mg 21 rfl)) (Nat.le_of_ble_eq_true rfl) rfl ?_
            have lp38 : ∀ (nn38 : Nat) (i5 : Nat), (i5 ≤ 5) → (∀ e, e < 5 * (i4) + i5 → ¬ nI e = a2) → 6 - i5 ≤ nn38 → X k w (Zq k w (PP)) 38 [some (.ref (wA w (m))), some (.int (nI (n8))), some (.int (a2)), some (.int (nI (5 * (i4) + i5))), some (.int (nI (i4))), some (.int (nI (i5)))] [] h g := by
              intro nn38
              induction nn38 with
              | zero => intro i5 hc38_0 hc38_1 hz; exact absurd hz (by omega)
              | succ nn38 ih38 =>
                intro i5 hc38_0 hc38_1 hz38
                refine X_iload C (D (38, .iload 5, 2) (mg 22 rfl)) rfl ?_
                refine X_iconst (v := nI (5)) C (D (40, .iconst 5, 1) (mg 23 rfl)) (by decide) ?_
                refine X_icmp_ge (tgt := 79) C (D (41, .if_icmp .ge 38, 3) (mg 24 rfl)) (by decide) (fun q12 => ?_) (fun q12 => ?_)
                · skip
                  have q12 : (i5) ≥ (5) := by have z := (nI_leI (a := (5)) (b := (i5)) (by omega) (by omega)).mp q12; omega
                  refine X_iinc (v := nI (i4 + 1)) (ls' := [some (.ref (wA w (m))), some (.int (nI (n8))), some (.int (a2)), some (.int (nI (5 * (i4) + i5))), some (.int (nI (i4 + 1))), some (.int (nI (i5)))]) C (D (79, .iinc 4 1, 3) (mg 43 rfl)) rfl (nI_add (i4) 1) rfl ?_
                  refine X_goto (tgt := 29) C (D (82, .goto (-53), 3) (mg 44 rfl)) (by decide) ?_
                  refine X_los (ls' := [some (.ref (wA w (m))), some (.int (nI (n8))), some (.int (a2)), some (.int (nI (5 * (i4) + i5))), some (.int (nI (i4 + 1))), none]) (by simp [lsub]) ?_
                  refine X_eq (ls' := [some (.ref (wA w (m))), some (.int (nI (n8))), some (.int (a2)), some (.int (nI (5 * (i4 + 1)))), some (.int (nI (i4 + 1))), none]) (st' := []) (h' := h) (g' := g) (by rw [show 5 * (i4) + i5 = 5 * (i4 + 1) by omega]) rfl rfl rfl ?_
                  exact ih29 (i4 + 1) (by omega) (fun e he => hc38_1 e (by omega)) (by omega)
                · skip
                  have q12 : (i5) < (5) := by have z : ¬ ((5) ≤ (i5)) := fun u => q12 ((nI_leI (a := (5)) (b := (i5)) (by omega) (by omega)).mpr u); omega
                  refine X_aload_n C 0 (D (44, .aload_n 0, 1) (mg 25 rfl)) rfl rfl ?_
                  refine X_iload_n C 1 (D (45, .iload_n 1, 1) (mg 26 rfl)) rfl rfl ?_
                  refine X_iload C (D (46, .iload 4, 2) (mg 27 rfl)) rfl ?_
                  refine X_iload C (D (48, .iload 5, 2) (mg 28 rfl)) rfl ?_
                  refine X_cV (As := [.int (nI (n8)), .int (nI (i4)), .int (nI (i5))]) (st := []) C (post := _) (m) (by omega) hsm rfl (cx_X8_rests hw hM (r1 := n8) (by omega) (i1 := i4) (by omega) (j1 := i5) (by omega) h g hF) kX8_203 (by decide) (by decide) rfl rfl (Nat.le_of_ble_eq_true rfl) (D (50, .invokevirtual 203, 3) (mg 29 rfl)) rfl (fun v15 H13 G14 hv15 => ?_)
                  obtain ⟨rfl, rfl, rfl⟩ := hv15
                  show X k w _ 53 [some (.ref (wA w (m))), some (.int (nI (n8))), some (.int (a2)), some (.int (nI (5 * (i4) + i5))), some (.int (nI (i4))), some (.int (nI (i5)))] [.int (nI (1))] h g
                  refine X_if_eq (tgt := 73) C (D (53, .ifCond .eq 20, 3) (mg 30 rfl)) (by decide) (fun q16 => ?_) (fun q16 => ?_)
                  · skip
                    exact absurd q16 (by decide)
                  · skip
                    refine X_iload_n C 3 (D (56, .iload_n 3, 1) (mg 31 rfl)) rfl rfl ?_
                    refine X_iload_n C 2 (D (57, .iload_n 2, 1) (mg 32 rfl)) rfl rfl ?_
                    refine X_icmp_ne (tgt := 70) C (D (58, .if_icmp .ne 12, 3) (mg 33 rfl)) (by decide) (fun q17 => ?_) (fun q17 => ?_)
                    · skip
                      refine X_iinc (v := nI (5 * (i4) + i5 + 1)) (ls' := [some (.ref (wA w (m))), some (.int (nI (n8))), some (.int (a2)), some (.int (nI (5 * (i4) + i5 + 1))), some (.int (nI (i4))), some (.int (nI (i5)))]) C (D (70, .iinc 3 1, 3) (mg 40 rfl)) rfl (nI_add (5 * (i4) + i5) 1) rfl ?_
                      refine X_iinc (v := nI (i5 + 1)) (ls' := [some (.ref (wA w (m))), some (.int (nI (n8))), some (.int (a2)), some (.int (nI (5 * (i4) + i5 + 1))), some (.int (nI (i4))), some (.int (nI (i5 + 1)))]) C (D (73, .iinc 5 1, 3) (mg 41 rfl)) rfl (nI_add (i5) 1) rfl ?_
                      refine X_goto (tgt := 38) C (D (76, .goto (-38), 3) (mg 42 rfl)) (by decide) ?_
                      refine X_eq (ls' := [some (.ref (wA w (m))), some (.int (nI (n8))), some (.int (a2)), some (.int (nI (5 * (i4) + i5 + 1))), some (.int (nI (i4))), some (.int (nI (i5 + 1)))]) (st' := []) (h' := h) (g' := g) rfl rfl rfl rfl ?_
                      exact ih38 (i5 + 1) (by omega) (al_s (P := fun e => ¬ nI e = a2) hc38_1 (by assumption)) (by omega)
                    · skip
                      refine X_bipush (v := nI (10)) C (D (61, .bipush 10, 2) (mg 34 rfl)) (by decide) ?_
                      refine X_iload C (D (63, .iload 4, 2) (mg 35 rfl)) rfl ?_
                      refine X_imul C (D (65, .imul, 1) (mg 36 rfl)) ?_
                      refine X_ti (y := nI ((10) * (i4))) (pk_mul (10) (i4)) ?_
                      refine X_iload C (D (66, .iload 5, 2) (mg 37 rfl)) rfl ?_
                      refine X_iadd C (D (68, .iadd, 1) (mg 38 rfl)) ?_
                      refine X_ti (y := nI ((10) * (i4) + i5)) (nI_add ((10) * (i4)) (i5)) ?_
                      exact X_iret C (D (69, .ireturn, 1) (mg 39 rfl)) (by rw [← hPP]; exact pRo_i ((if_pos ⟨by omega, hk9_⟩).trans (by rw [← (by assumption : nI (5 * (i4) + i5) = a2), spY_k (by omega), show (5 * (i4) + i5) / 5 = i4 by omega, show (5 * (i4) + i5) % 5 = i5 by omega])))
            refine X_eq (ls' := [some (.ref (wA w (m))), some (.int (nI (n8))), some (.int (a2)), some (.int (nI (5 * (i4) + 0))), some (.int (nI (i4))), some (.int (nI (0)))]) (st' := []) (h' := h) (g' := g) rfl rfl rfl rfl ?_
            exact lp38 _ (0) (by omega) (fun e he => hc29_1 e (by omega)) (Nat.le_refl _)
      refine X_eq (ls' := [some (.ref (wA w (m))), some (.int (nI (n8))), some (.int (a2)), some (.int (nI (5 * (0)))), some (.int (nI (0))), none]) (st' := []) (h' := h) (g' := g) rfl rfl rfl rfl ?_
      exact lp29 _ (0) (by omega) (fun e he => absurd he (by omega)) (Nat.le_refl _)
    · skip
      have hk9_ : ¬ (-1 ≤ a2.toInt) := fun z9 => q9 (Int32.le_iff_toInt_le.mpr (by rw [m1_i]; exact z9))
      refine X_aload_n C 0 (D (17, .aload_n 0, 1) (mg 9 rfl)) rfl rfl ?_
      refine X_bipush (v := (-10 : Int32)) C (D (18, .bipush (-10), 2) (mg 10 rfl)) (by decide) ?_
      refine X_cV (As := [.int ((-10 : Int32))]) (st := []) C (post := _) (m) (by omega) hsm rfl (ct_X8_bad hw hM ((-10 : Int32)) h g) kX8_75 (by decide) (by decide) rfl rfl (Nat.le_of_ble_eq_true rfl) (D (20, .invokevirtual 75, 3) (mg 11 rfl)) rfl (fun v20 H18 G19 hv20 => ?_)
      obtain ⟨rfl, rfl, rfl⟩ := hv20
      show X k w _ 23 [some (.ref (wA w (m))), some (.int (nI (n8))), some (.int (a2)), none, none, none] [.int ((-10 : Int32))] (rfH h m 0) g
      exact X_iret C (D (23, .ireturn, 1) (mg 12 rfl)) (by rw [← hPP]; exact pRo_i (if_neg (fun u_ => by first | omega | exact hk9_ u_.2)))
set_option maxHeartbeats 4000000 in
set_option maxRecDepth 100000 in
theorem cx_X8_years {l : Launch} {w : Kw} (hw : wOk w) {m : Nat} (hM : shM w m) (a1 : Int32) (a2 : Int32) (h : xI) (g : xJ) (hF : mFr m h) : Ct l w yX8_years cX8_years 8 (some .int) 4 91 [.ref (wA w (m)), .int (a1), .int (a2)] h g (pRo (if (0 ≤ a1.toInt ∧ a1.toInt < 1000000) ∧ (0 ≤ a2.toInt ∧ a2.toInt ≤ 60) then nI (gN (yrZ a1.toInt.toNat a2.toInt.toNat)) else (-2 : Int32))) := by
  refine Ct_of (ls := [some (.ref (wA w (m))), some (.int (a1)), some (.int (a2)), none, none, none, none, none]) (by decide) hw (Nat.le_of_ble_eq_true rfl) rfl (fun k hkl C => ?_)
  have C : Cx k w cX8_years RX8 8 (some .int) 4 91 := C
  have D := dtX8_years
  subst hkl
  generalize hPP : (pRo (if (0 ≤ a1.toInt ∧ a1.toInt < 1000000) ∧ (0 ≤ a2.toInt ∧ a2.toInt ≤ 60) then nI (gN (yrZ a1.toInt.toNat a2.toInt.toNat)) else (-2 : Int32))) = PP
  have hM0 := hM
  obtain ⟨hm, hsm, hs1, hs2, hs3, hs4, hs5, hs6, hs7, hs8, hs9, hs10, hs11⟩ := hM
  have hM := hM0
  have hF0 := hF
  obtain ⟨hZ, hTx, hRf⟩ := hF
  have hF := hF0
  refine X_iload_n C 1 (D (0, .iload_n 1, 1) (mg 0 rfl)) rfl rfl ?_
  refine X_i2l C (D (1, .i2l, 1) (mg 1 rfl)) ?_
  refine X_lconst (v := lN 0) C (D (2, .lconst 0, 1) (mg 2 rfl)) (by decide) ?_
  refine X_ldc2 C (D (3, .ldc2_w 218, 3) (mg 3 rfl)) vX8_218 ?_
  refine X_tl (y := lN (999999)) rfl ?_
  refine X_cS (As := [.long ((a1).toInt64), .long (lN (0)), .long (lN (999999))]) (st := []) C (post := _) (ct_X8_in hw ((a1).toInt64) (lN (0)) (lN (999999)) h g) kX8_54 (by decide) (by decide) rfl rfl (Nat.le_of_ble_eq_true rfl) (D (6, .invokestatic 54, 3) (mg 4 rfl)) rfl (fun v3 H1 G2 hv3 => ?_)
  obtain ⟨rfl, rfl, rfl⟩ := hv3
  show X k w _ 9 [some (.ref (wA w (m))), some (.int (a1)), some (.int (a2)), none, none, none, none, none] [.int (if (lN (0)).toInt ≤ ((a1).toInt64).toInt ∧ ((a1).toInt64).toInt ≤ (lN (999999)).toInt then 1 else 0)] h g
  refine X_if_eq (tgt := 24) C (D (9, .ifCond .eq 15, 3) (mg 5 rfl)) (by decide) (fun q4 => ?_) (fun q4 => ?_)
  · skip
    have q4 : ¬ ((lN (0)).toInt ≤ ((a1).toInt64).toInt ∧ ((a1).toInt64).toInt ≤ (lN (999999)).toInt) := bz0.mp q4
    simp only [i6, pk_lT (n := 0) (by omega), pk_lT (n := 999999) (by omega)] at q4
    refine X_aload_n C 0 (D (24, .aload_n 0, 1) (mg 12 rfl)) rfl rfl ?_
    refine X_bipush (v := (-2 : Int32)) C (D (25, .bipush (-2), 2) (mg 13 rfl)) (by decide) ?_
    refine X_cV (As := [.int ((-2 : Int32))]) (st := []) C (post := _) (m) (by omega) hsm rfl (ct_X8_bad hw hM ((-2 : Int32)) h g) kX8_75 (by decide) (by decide) rfl rfl (Nat.le_of_ble_eq_true rfl) (D (27, .invokevirtual 75, 3) (mg 14 rfl)) rfl (fun v7 H5 G6 hv7 => ?_)
    obtain ⟨rfl, rfl, rfl⟩ := hv7
    show X k w _ 30 [some (.ref (wA w (m))), some (.int (a1)), some (.int (a2)), none, none, none, none, none] [.int ((-2 : Int32))] (rfH h m 0) g
    exact X_iret C (D (30, .ireturn, 1) (mg 15 rfl)) (by rw [← hPP]; exact pRo_i (if_neg (by omega)))
  · skip
    have q4 : ((lN (0)).toInt ≤ ((a1).toInt64).toInt ∧ ((a1).toInt64).toInt ≤ (lN (999999)).toInt) := bz1.mp q4
    simp only [i6, pk_lT (n := 0) (by omega), pk_lT (n := 999999) (by omega)] at q4
    obtain ⟨n8, hn8, rfl⟩ := nI_i (x := a1) (n := 1000000) (by omega) (by omega)
    refine X_iload_n C 2 (D (12, .iload_n 2, 1) (mg 6 rfl)) rfl rfl ?_
    refine X_i2l C (D (13, .i2l, 1) (mg 7 rfl)) ?_
    refine X_lconst (v := lN 0) C (D (14, .lconst 0, 1) (mg 8 rfl)) (by decide) ?_
    refine X_ldc2 C (D (15, .ldc2_w 138, 3) (mg 9 rfl)) vX8_138 ?_
    refine X_tl (y := lN (60)) rfl ?_
    refine X_cS (As := [.long ((a2).toInt64), .long (lN (0)), .long (lN (60))]) (st := []) C (post := _) (ct_X8_in hw ((a2).toInt64) (lN (0)) (lN (60)) h g) kX8_54 (by decide) (by decide) rfl rfl (Nat.le_of_ble_eq_true rfl) (D (18, .invokestatic 54, 3) (mg 10 rfl)) rfl (fun v11 H9 G10 hv11 => ?_)
    obtain ⟨rfl, rfl, rfl⟩ := hv11
    show X k w _ 21 [some (.ref (wA w (m))), some (.int (nI (n8))), some (.int (a2)), none, none, none, none, none] [.int (if (lN (0)).toInt ≤ ((a2).toInt64).toInt ∧ ((a2).toInt64).toInt ≤ (lN (60)).toInt then 1 else 0)] h g
    refine X_if_ne (tgt := 31) C (D (21, .ifCond .ne 10, 3) (mg 11 rfl)) (by decide) (fun q12 => ?_) (fun q12 => ?_)
    · skip
      have q12 : ((lN (0)).toInt ≤ ((a2).toInt64).toInt ∧ ((a2).toInt64).toInt ≤ (lN (60)).toInt) := bz1.mp q12
      simp only [i6, pk_lT (n := 0) (by omega), pk_lT (n := 60) (by omega)] at q12
      obtain ⟨n13, hn13, rfl⟩ := nI_i (x := a2) (n := 61) (by omega) (by omega)
      refine X_iload_n C 1 (D (31, .iload_n 1, 1) (mg 16 rfl)) rfl rfl ?_
      refine X_i2l C (D (32, .i2l, 1) (mg 17 rfl)) ?_
      refine X_tl (y := lN (n8)) (nI_l (by omega)) ?_
      refine X_lstore_n (ls' := [some (.ref (wA w (m))), some (.int (nI (n8))), some (.int (nI (n13))), some (.long (lN (n8))), none, none, none, none]) C 3 (D (33, .lstore_n 3, 1) (mg 18 rfl)) rfl (Nat.le_of_ble_eq_true rfl) rfl ?_
      refine X_aload_n C 0 (D (34, .aload_n 0, 1) (mg 19 rfl)) rfl rfl ?_
      refine X_cV (As := []) (st := []) C (post := _) (m) (by omega) hsm rfl (ct_X8_layHand hw hM h g) kX8_149 (by decide) (by decide) rfl rfl (Nat.le_of_ble_eq_true rfl) (D (35, .invokevirtual 149, 3) (mg 20 rfl)) rfl (fun v16 H14 G15 hv16 => ?_)
      obtain ⟨rfl, rfl, rfl⟩ := hv16
      show X k w _ 38 [some (.ref (wA w (m))), some (.int (nI (n8))), some (.int (nI (n13))), some (.long (lN (n8))), none, none, none, none] [] (haH h m) g
      refine X_iconst (v := nI (0)) C (D (38, .iconst 0, 1) (mg 21 rfl)) (by decide) ?_
      refine X_istore (ls' := [some (.ref (wA w (m))), some (.int (nI (n8))), some (.int (nI (n13))), some (.long (lN (n8))), none, some (.int (nI (0))), none, none]) C (D (39, .istore 5, 2) (mg 22 rfl)) (Nat.le_of_ble_eq_true rfl) rfl ?_
      have lp41 : ∀ (nn41 : Nat) (j : Nat) (hp41 : xI) (gp41 : xJ), (j ≤ n13) → (rM hp41 (m + 5) (yrZ n8 j)) → n13 + 1 - j ≤ nn41 → X k w (Zq k w (PP)) 41 [some (.ref (wA w (m))), some (.int (nI (n8))), some (.int (nI (n13))), some (.long (lN (yrX n8 (j)))), none, some (.int (nI (j))), none, none] [] hp41 gp41 := by
        intro nn41
        induction nn41 with
        | zero => intro j hp41 gp41 hc41_0 hc41_1 hz; exact absurd hz (by omega)
        | succ nn41 ih41 =>
          intro j hp41 gp41 hc41_0 hc41_1 hz41
          refine X_iload C (D (41, .iload 5, 2) (mg 23 rfl)) rfl ?_
          refine X_iload_n C 2 (D (43, .iload_n 2, 1) (mg 24 rfl)) rfl rfl ?_
          refine X_icmp_ge (tgt := 156) C (D (44, .if_icmp .ge 112, 3) (mg 25 rfl)) (by decide) (fun q17 => ?_) (fun q17 => ?_)
          · skip
            have q17 : (j) ≥ (n13) := by have z := (nI_leI (a := (n13)) (b := (j)) (by omega) (by omega)).mp q17; omega
            refine X_aload_n C 0 (D (156, .aload_n 0, 1) (mg 82 rfl)) rfl rfl ?_
            refine X_get (v := .ref (wA w (m + 5))) C (m) 6 (by omega) hsm rfl rfl (by decide) inX8 fX8_27 rfl (D (157, .getfield 27, 3) (mg 83 rfl)) rfl ?_
            refine X_iconst (v := nI (1)) C (D (160, .iconst 1, 1) (mg 84 rfl)) (by decide) ?_
            refine X_cS (As := [.ref (wA w (m + 5)), .int (nI (1))]) (st := []) C (post := _) (ct_X8_manyAtLeast hw (⟨by omega, hs5, by omega, by omega⟩ : rw56 w (m + 5) 56) (nI (1)) hp41 gp41) kX8_143 (by decide) (by decide) rfl rfl (Nat.le_of_ble_eq_true rfl) (D (161, .invokestatic 143, 3) (mg 85 rfl)) rfl (fun v20 H18 G19 hv20 => ?_)
            obtain ⟨rfl, rfl, rfl⟩ := hv20
            show X k w _ 164 [some (.ref (wA w (m))), some (.int (nI (n8))), some (.int (nI (n13))), some (.long (lN (yrX n8 (j)))), none, some (.int (nI (j))), none, none] [.int (nI (cn (fun c => ¬ hiV (hp41 (m + 5) (3 + c)) < nI (1)) 25))] hp41 gp41
            refine X_ti (y := nI (gN (yrZ n8 j))) (congrArg nI (gN_m hc41_1)) ?_
            exact X_iret C (D (164, .ireturn, 1) (mg 86 rfl)) (by rw [← hPP]; exact pRo_i ((if_pos (by omega)).trans (by rw [nI_tn (by omega), nI_tn (by omega), show j = n13 by omega])))
          · skip
            have q17 : (j) < (n13) := by have z : ¬ ((n13) ≤ (j)) := fun u => q17 ((nI_leI (a := (n13)) (b := (j)) (by omega) (by omega)).mpr u); omega
            have hyx_ := yrX_lt (x0 := n8) (by omega) j
            have hyy_ := yrX_lt (x0 := n8) (by omega) (j + 1)
            have yo_ := yrZ_ok n8 j
            refine X_lload_n C 3 (D (47, .lload_n 3, 1) (mg 26 rfl)) rfl rfl ?_
            refine X_ldc2 C (D (48, .ldc2_w 220, 3) (mg 27 rfl)) vX8_220 ?_
            refine X_tl (y := lN (1103515245)) rfl ?_
            refine X_lmul C (D (51, .lmul, 1) (mg 28 rfl)) ?_
            refine X_tl (y := lN ((yrX n8 (j)) * (1103515245))) (lN_mul (yrX n8 (j)) (1103515245)) ?_
            refine X_ldc2 C (D (52, .ldc2_w 222, 3) (mg 29 rfl)) vX8_222 ?_
            refine X_tl (y := lN (12345)) rfl ?_
            refine X_ladd C (D (55, .ladd, 1) (mg 30 rfl)) ?_
            refine X_tl (y := lN (((yrX n8 (j)) * (1103515245)) + (12345))) (lN_add ((yrX n8 (j)) * (1103515245)) (12345)) ?_
            refine X_ldc2 C (D (56, .ldc2_w 224, 3) (mg 31 rfl)) vX8_224 ?_
            refine X_tl (y := lN (2147483648)) rfl ?_
            refine X_lrem C (D (59, .lrem, 1) (mg 32 rfl)) (by decide) ?_
            refine X_tl (y := lN (yrX n8 (j + 1))) (show _ = lN ((((yrX n8 (j)) * (1103515245)) + (12345)) % (2147483648)) from pk_lRem (by omega) (by omega) (by omega)) ?_
            refine X_lstore_n (ls' := [some (.ref (wA w (m))), some (.int (nI (n8))), some (.int (nI (n13))), some (.long (lN (yrX n8 (j + 1)))), none, some (.int (nI (j))), none, none]) C 3 (D (60, .lstore_n 3, 1) (mg 33 rfl)) rfl (Nat.le_of_ble_eq_true rfl) rfl ?_
            refine X_lload_n C 3 (D (61, .lload_n 3, 1) (mg 34 rfl)) rfl rfl ?_
            refine X_ldc2 C (D (62, .ldc2_w 226, 3) (mg 35 rfl)) vX8_226 ?_
            refine X_tl (y := lN (1048576)) rfl ?_
            refine X_ldiv C (D (65, .ldiv, 1) (mg 36 rfl)) (by decide) ?_
            refine X_tl (y := lN ((yrX n8 (j + 1)) / (1048576))) (pk_lDiv (by omega) (by omega) (by omega)) ?_
            refine X_ldc2 C (D (66, .ldc2_w 228, 3) (mg 37 rfl)) vX8_228 ?_
            refine X_tl (y := lN (25)) rfl ?_
            refine X_lrem C (D (69, .lrem, 1) (mg 38 rfl)) (by decide) ?_
            refine X_tl (y := lN (((yrX n8 (j + 1)) / (1048576)) % (25))) (pk_lRem (by omega) (by omega) (by omega)) ?_
            refine X_l2i C (D (70, .l2i, 1) (mg 39 rfl)) ?_
            refine X_ti (y := nI (((yrX n8 (j + 1)) / (1048576)) % (25))) (lN_i _) ?_
            refine X_istore (ls' := [some (.ref (wA w (m))), some (.int (nI (n8))), some (.int (nI (n13))), some (.long (lN (yrX n8 (j + 1)))), none, some (.int (nI (j))), some (.int (nI (((yrX n8 (j + 1)) / (1048576)) % (25)))), none]) C (D (71, .istore 6, 2) (mg 40 rfl)) (Nat.le_of_ble_eq_true rfl) rfl ?_
            refine X_lload_n C 3 (D (73, .lload_n 3, 1) (mg 41 rfl)) rfl rfl ?_
            refine X_ldc2 C (D (74, .ldc2_w 230, 3) (mg 42 rfl)) vX8_230 ?_
            refine X_tl (y := lN (16384)) rfl ?_
            refine X_ldiv C (D (77, .ldiv, 1) (mg 43 rfl)) (by decide) ?_
            refine X_tl (y := lN ((yrX n8 (j + 1)) / (16384))) (pk_lDiv (by omega) (by omega) (by omega)) ?_
            refine X_ldc2 C (D (78, .ldc2_w 60, 3) (mg 44 rfl)) vX8_60 ?_
            refine X_tl (y := lN (4)) rfl ?_
            refine X_lrem C (D (81, .lrem, 1) (mg 45 rfl)) (by decide) ?_
            refine X_tl (y := lN (((yrX n8 (j + 1)) / (16384)) % (4))) (pk_lRem (by omega) (by omega) (by omega)) ?_
            refine X_l2i C (D (82, .l2i, 1) (mg 46 rfl)) ?_
            refine X_ti (y := nI (((yrX n8 (j + 1)) / (16384)) % (4))) (lN_i _) ?_
            refine X_istore (ls' := [some (.ref (wA w (m))), some (.int (nI (n8))), some (.int (nI (n13))), some (.long (lN (yrX n8 (j + 1)))), none, some (.int (nI (j))), some (.int (nI (((yrX n8 (j + 1)) / (1048576)) % (25)))), some (.int (nI (((yrX n8 (j + 1)) / (16384)) % (4))))]) C (D (83, .istore 7, 2) (mg 47 rfl)) (Nat.le_of_ble_eq_true rfl) rfl ?_
            refine X_aload_n C 0 (D (85, .aload_n 0, 1) (mg 48 rfl)) rfl rfl ?_
            refine X_get (v := .ref (wA w (m + 5))) C (m) 6 (by omega) hsm rfl rfl (by decide) inX8 fX8_27 rfl (D (86, .getfield 27, 3) (mg 49 rfl)) rfl ?_
            refine X_iload C (D (89, .iload 6, 2) (mg 50 rfl)) rfl ?_
            refine X_cS (As := [.ref (wA w (m + 5)), .int (nI (((yrX n8 (j + 1)) / (1048576)) % (25)))]) (st := []) C (post := _) (ct_X8_lies hw (⟨by omega, hs5, by omega, by omega⟩ : rw56 w (m + 5) 56) (by omega) hp41 gp41) kX8_64 (by decide) (by decide) rfl rfl (Nat.le_of_ble_eq_true rfl) (D (91, .invokestatic 64, 3) (mg 51 rfl)) rfl (fun v23 H21 G22 hv23 => ?_)
            obtain ⟨rfl, rfl, rfl⟩ := hv23
            show X k w _ 94 [some (.ref (wA w (m))), some (.int (nI (n8))), some (.int (nI (n13))), some (.long (lN (yrX n8 (j + 1)))), none, some (.int (nI (j))), some (.int (nI (((yrX n8 (j + 1)) / (1048576)) % (25)))), some (.int (nI (((yrX n8 (j + 1)) / (16384)) % (4))))] [.int (if ¬ hp41 (m + 5) (3 + (((yrX n8 (j + 1)) / (1048576)) % (25))) = 0 then 1 else 0)] hp41 gp41
            refine X_if_ne (tgt := 118) C (D (94, .ifCond .ne 24, 3) (mg 52 rfl)) (by decide) (fun q24 => ?_) (fun q24 => ?_)
            · skip
              have q24 : (¬ hp41 (m + 5) (3 + (((yrX n8 (j + 1)) / (1048576)) % (25))) = 0) := bz1.mp q24
              have hli_ : ¬ (yrZ n8 j).2.2.2 (((yrX n8 (j + 1)) / (1048576)) % (25)) = 0 := fun u_ => q24 (by rw [hc41_1.2.2.2 (((yrX n8 (j + 1)) / (1048576)) % (25)) (by omega), u_]; rfl)
              have hz1_ : rM hp41 (m + 5) (ySy (yrZ n8 j) (((yrX n8 (j + 1)) / (1048576)) % (25)) (((yrX n8 (j + 1)) / (65536)) % (6))) := by (unfold ySy; rw [if_neg hli_]; exact hc41_1)
              have ho1_ : nOk (ySy (yrZ n8 j) (((yrX n8 (j + 1)) / (1048576)) % (25)) (((yrX n8 (j + 1)) / (65536)) % (6))) := ySy_ok yo_ (by omega)
              obtain ⟨z1, ez1_⟩ : ∃ z1, z1 = ySy (yrZ n8 j) (((yrX n8 (j + 1)) / (1048576)) % (25)) (((yrX n8 (j + 1)) / (65536)) % (6)) := ⟨_, rfl⟩
              rw [← ez1_] at hz1_ ho1_
              have hat1_ := ho1_.2.1
              refine X_aload_n C 0 (D (118, .aload_n 0, 1) (mg 65 rfl)) rfl rfl ?_
              refine X_get (v := .ref (wA w (m + 5))) C (m) 6 (by omega) hsm rfl rfl (by decide) inX8 fX8_27 rfl (D (119, .getfield 27, 3) (mg 66 rfl)) rfl ?_
              refine X_bipush (v := nI (28)) C (D (122, .bipush 28, 2) (mg 67 rfl)) (by decide) ?_
              refine X_iald (v := hp41 (m + 5) (28)) C (m + 5) (by omega) hs5 (vp_in_nI (by omega) (by omega)) (D (124, .iaload, 1) (mg 68 rfl)) (by rw [nI_clamp (by omega)]) ?_
              refine X_ti (y := nI (z1.2.1)) (hz1_.2.1) ?_
              refine X_iload C (D (125, .iload 7, 2) (mg 69 rfl)) rfl ?_
              refine X_cS (As := [.int (nI (z1.2.1)), .int (nI (((yrX n8 (j + 1)) / (16384)) % (4)))]) (st := []) C (post := _) (ct_X8_beside hw (j := z1.2.1) (by omega) (nI (((yrX n8 (j + 1)) / (16384)) % (4))) hp41 gp41) kX8_110 (by decide) (by decide) rfl rfl (Nat.le_of_ble_eq_true rfl) (D (127, .invokestatic 110, 3) (mg 70 rfl)) rfl (fun v27 H25 G26 hv27 => ?_)
              obtain ⟨rfl, rfl, rfl⟩ := hv27
              obtain ⟨y28, ey28⟩ : ∃ y, y = bsA (z1.2.1) (nI (((yrX n8 (j + 1)) / (16384)) % (4))) := ⟨_, rfl⟩
              have hy28 := bsA_alt (j := z1.2.1) (by omega) (nI (((yrX n8 (j + 1)) / (16384)) % (4)))
              rw [← ey28] at hy28
              rw [← ey28]
              show X k w _ 130 [some (.ref (wA w (m))), some (.int (nI (n8))), some (.int (nI (n13))), some (.long (lN (yrX n8 (j + 1)))), none, some (.int (nI (j))), some (.int (nI (((yrX n8 (j + 1)) / (1048576)) % (25)))), some (.int (nI (((yrX n8 (j + 1)) / (16384)) % (4))))] [.int (y28)] hp41 gp41
              refine X_iconst (v := (-1 : Int32)) C (D (130, .iconst (-1), 1) (mg 71 rfl)) (by decide) ?_
              refine X_icmp_eq (tgt := 143) C (D (131, .if_icmp .eq 12, 3) (mg 72 rfl)) (by decide) (fun q29 => ?_) (fun q29 => ?_)
              · skip
                subst q29
                have ex9_ := ey28
                rw [bs_all z1.2.1 (by omega) (((yrX n8 (j + 1)) / (16384)) % (4)) (by omega)] at ex9_
                have hbs_ := bs_m ex9_
                have hz2_ : rM hp41 (m + 5) (ySt z1 (((yrX n8 (j + 1)) / (16384)) % (4))) := by (unfold ySt; rw [if_neg hbs_]; exact hz1_)
                have ho2_ : nOk (ySt z1 (((yrX n8 (j + 1)) / (16384)) % (4))) := ySt_ok ho1_
                refine X_aload_n C 0 (D (143, .aload_n 0, 1) (mg 77 rfl)) rfl rfl ?_
                refine X_get (v := .ref (wA w (m + 5))) C (m) 6 (by omega) hsm rfl rfl (by decide) inX8 fX8_27 rfl (D (144, .getfield 27, 3) (mg 78 rfl)) rfl ?_
                refine X_cS (As := [.ref (wA w (m + 5))]) (st := []) C (post := _) (ct_X8_goWeek hw (⟨by omega, hs5, by omega, by omega⟩ : rw56 w (m + 5) 56) hp41 gp41) kX8_121 (by decide) (by decide) rfl rfl (Nat.le_of_ble_eq_true rfl) (D (147, .invokestatic 121, 3) (mg 79 rfl)) rfl (fun v32 H30 G31 hv32 => ?_)
                obtain ⟨rfl, rfl, rfl⟩ := hv32
                show X k w _ 150 [some (.ref (wA w (m))), some (.int (nI (n8))), some (.int (nI (n13))), some (.long (lN (yrX n8 (j + 1)))), none, some (.int (nI (j))), some (.int (nI (((yrX n8 (j + 1)) / (1048576)) % (25)))), some (.int (nI (((yrX n8 (j + 1)) / (16384)) % (4))))] [] (wkH hp41 (m + 5)) gp41
                refine X_iinc (v := nI (j + 1)) (ls' := [some (.ref (wA w (m))), some (.int (nI (n8))), some (.int (nI (n13))), some (.long (lN (yrX n8 (j + 1)))), none, some (.int (nI (j + 1))), some (.int (nI (((yrX n8 (j + 1)) / (1048576)) % (25)))), some (.int (nI (((yrX n8 (j + 1)) / (16384)) % (4))))]) C (D (150, .iinc 5 1, 3) (mg 80 rfl)) rfl (nI_add (j) 1) rfl ?_
                refine X_goto (tgt := 41) C (D (153, .goto (-112), 3) (mg 81 rfl)) (by decide) ?_
                refine X_los (ls' := [some (.ref (wA w (m))), some (.int (nI (n8))), some (.int (nI (n13))), some (.long (lN (yrX n8 (j + 1)))), none, some (.int (nI (j + 1))), none, none]) (by simp [lsub]) ?_
                refine X_eq (ls' := [some (.ref (wA w (m))), some (.int (nI (n8))), some (.int (nI (n13))), some (.long (lN (yrX n8 (j + 1)))), none, some (.int (nI (j + 1))), none, none]) (st' := []) (h' := (wkH hp41 (m + 5))) (g' := gp41) rfl rfl rfl rfl ?_
                exact ih41 (j + 1) ((wkH hp41 (m + 5))) (gp41) (by omega) (by subst ez1_; exact rM_wk hz2_ ho2_) (by omega)
              · skip
                obtain ⟨c33, hc33, rfl⟩ := hy28.resolve_left q29
                have ex9_ := ey28
                rw [bs_all z1.2.1 (by omega) (((yrX n8 (j + 1)) / (16384)) % (4)) (by omega)] at ex9_
                have hbs_ := bs_c (by omega) ex9_
                refine X_aload_n C 0 (D (134, .aload_n 0, 1) (mg 73 rfl)) rfl rfl ?_
                refine X_get (v := .ref (wA w (m + 5))) C (m) 6 (by omega) hsm rfl rfl (by decide) inX8 fX8_27 rfl (D (135, .getfield 27, 3) (mg 74 rfl)) rfl ?_
                refine X_iload C (D (138, .iload 7, 2) (mg 75 rfl)) rfl ?_
                refine X_cS (As := [.ref (wA w (m + 5)), .int (nI (((yrX n8 (j + 1)) / (16384)) % (4)))]) (st := []) C (post := _) (ct_X8_goStep hw (⟨by omega, hs5, by omega, by omega⟩ : rw56 w (m + 5) 56) (j := z1.2.1) (c := c33) (by omega) (by omega) (nI (((yrX n8 (j + 1)) / (16384)) % (4))) hp41 gp41 (hz1_.2.1) ey28.symm) kX8_134 (by decide) (by decide) rfl rfl (Nat.le_of_ble_eq_true rfl) (D (140, .invokestatic 134, 3) (mg 76 rfl)) rfl (fun v36 H34 G35 hv36 => ?_)
                obtain ⟨rfl, rfl, rfl⟩ := hv36
                show X k w _ 143 [some (.ref (wA w (m))), some (.int (nI (n8))), some (.int (nI (n13))), some (.long (lN (yrX n8 (j + 1)))), none, some (.int (nI (j))), some (.int (nI (((yrX n8 (j + 1)) / (1048576)) % (25)))), some (.int (nI (((yrX n8 (j + 1)) / (16384)) % (4))))] [] (stH hp41 (m + 5) (c33)) gp41
                have hz2_ : rM (stH hp41 (m + 5) (c33)) (m + 5) (ySt z1 (((yrX n8 (j + 1)) / (16384)) % (4))) := by (unfold ySt; rw [hbs_, if_pos (by omega)]; exact rM_stp hz1_ ho1_ (by omega))
                have ho2_ : nOk (ySt z1 (((yrX n8 (j + 1)) / (16384)) % (4))) := ySt_ok ho1_
                refine X_aload_n C 0 (D (143, .aload_n 0, 1) (mg 77 rfl)) rfl rfl ?_
                refine X_get (v := .ref (wA w (m + 5))) C (m) 6 (by omega) hsm rfl rfl (by decide) inX8 fX8_27 rfl (D (144, .getfield 27, 3) (mg 78 rfl)) rfl ?_
                refine X_cS (As := [.ref (wA w (m + 5))]) (st := []) C (post := _) (ct_X8_goWeek hw (⟨by omega, hs5, by omega, by omega⟩ : rw56 w (m + 5) 56) (stH hp41 (m + 5) (c33)) gp41) kX8_121 (by decide) (by decide) rfl rfl (Nat.le_of_ble_eq_true rfl) (D (147, .invokestatic 121, 3) (mg 79 rfl)) rfl (fun v39 H37 G38 hv39 => ?_)
                obtain ⟨rfl, rfl, rfl⟩ := hv39
                show X k w _ 150 [some (.ref (wA w (m))), some (.int (nI (n8))), some (.int (nI (n13))), some (.long (lN (yrX n8 (j + 1)))), none, some (.int (nI (j))), some (.int (nI (((yrX n8 (j + 1)) / (1048576)) % (25)))), some (.int (nI (((yrX n8 (j + 1)) / (16384)) % (4))))] [] (wkH (stH hp41 (m + 5) (c33)) (m + 5)) gp41
                refine X_iinc (v := nI (j + 1)) (ls' := [some (.ref (wA w (m))), some (.int (nI (n8))), some (.int (nI (n13))), some (.long (lN (yrX n8 (j + 1)))), none, some (.int (nI (j + 1))), some (.int (nI (((yrX n8 (j + 1)) / (1048576)) % (25)))), some (.int (nI (((yrX n8 (j + 1)) / (16384)) % (4))))]) C (D (150, .iinc 5 1, 3) (mg 80 rfl)) rfl (nI_add (j) 1) rfl ?_
                refine X_goto (tgt := 41) C (D (153, .goto (-112), 3) (mg 81 rfl)) (by decide) ?_
                refine X_los (ls' := [some (.ref (wA w (m))), some (.int (nI (n8))), some (.int (nI (n13))), some (.long (lN (yrX n8 (j + 1)))), none, some (.int (nI (j + 1))), none, none]) (by simp [lsub]) ?_
                refine X_eq (ls' := [some (.ref (wA w (m))), some (.int (nI (n8))), some (.int (nI (n13))), some (.long (lN (yrX n8 (j + 1)))), none, some (.int (nI (j + 1))), none, none]) (st' := []) (h' := (wkH (stH hp41 (m + 5) (c33)) (m + 5))) (g' := gp41) rfl rfl rfl rfl ?_
                exact ih41 (j + 1) ((wkH (stH hp41 (m + 5) (c33)) (m + 5))) (gp41) (by omega) (by subst ez1_; exact rM_wk hz2_ ho2_) (by omega)
            · skip
              have q24 : ¬ (¬ hp41 (m + 5) (3 + (((yrX n8 (j + 1)) / (1048576)) % (25))) = 0) := bz0.mp q24
              have hli_ : (yrZ n8 j).2.2.2 (((yrX n8 (j + 1)) / (1048576)) % (25)) = 0 := (nI_z (yo_.2.2.2 (((yrX n8 (j + 1)) / (1048576)) % (25)) (by omega))).mp (by rw [← hc41_1.2.2.2 (((yrX n8 (j + 1)) / (1048576)) % (25)) (by omega)]; exact Classical.byContradiction q24)
              refine X_aload_n C 0 (D (97, .aload_n 0, 1) (mg 53 rfl)) rfl rfl ?_
              refine X_get (v := .ref (wA w (m + 5))) C (m) 6 (by omega) hsm rfl rfl (by decide) inX8 fX8_27 rfl (D (98, .getfield 27, 3) (mg 54 rfl)) rfl ?_
              refine X_iload C (D (101, .iload 6, 2) (mg 55 rfl)) rfl ?_
              refine X_lload_n C 3 (D (103, .lload_n 3, 1) (mg 56 rfl)) rfl rfl ?_
              refine X_ldc2 C (D (104, .ldc2_w 232, 3) (mg 57 rfl)) vX8_232 ?_
              refine X_tl (y := lN (65536)) rfl ?_
              refine X_ldiv C (D (107, .ldiv, 1) (mg 58 rfl)) (by decide) ?_
              refine X_tl (y := lN ((yrX n8 (j + 1)) / (65536))) (pk_lDiv (by omega) (by omega) (by omega)) ?_
              refine X_ldc2 C (D (108, .ldc2_w 234, 3) (mg 59 rfl)) vX8_234 ?_
              refine X_tl (y := lN (6)) rfl ?_
              refine X_lrem C (D (111, .lrem, 1) (mg 60 rfl)) (by decide) ?_
              refine X_tl (y := lN (((yrX n8 (j + 1)) / (65536)) % (6))) (pk_lRem (by omega) (by omega) (by omega)) ?_
              refine X_l2i C (D (112, .l2i, 1) (mg 61 rfl)) ?_
              refine X_ti (y := nI (((yrX n8 (j + 1)) / (65536)) % (6))) (lN_i _) ?_
              refine X_iconst (v := nI (0)) C (D (113, .iconst 0, 1) (mg 62 rfl)) (by decide) ?_
              refine X_iconst (v := nI (0)) C (D (114, .iconst 0, 1) (mg 63 rfl)) (by decide) ?_
              refine X_cS (As := [.ref (wA w (m + 5)), .int (nI (((yrX n8 (j + 1)) / (1048576)) % (25))), .int (nI (((yrX n8 (j + 1)) / (65536)) % (6))), .int (nI (0)), .int (nI (0))]) (st := []) C (post := _) (ct_X8_lay hw (⟨by omega, hs5, by omega, by omega⟩ : rw56 w (m + 5) 56) (by omega) (nI (((yrX n8 (j + 1)) / (65536)) % (6))) (nI (0)) (nI (0)) hp41 gp41) kX8_117 (by decide) (by decide) rfl rfl (Nat.le_of_ble_eq_true rfl) (D (115, .invokestatic 117, 3) (mg 64 rfl)) rfl (fun v42 H40 G41 hv42 => ?_)
              obtain ⟨rfl, rfl, rfl⟩ := hv42
              show X k w _ 118 [some (.ref (wA w (m))), some (.int (nI (n8))), some (.int (nI (n13))), some (.long (lN (yrX n8 (j + 1)))), none, some (.int (nI (j))), some (.int (nI (((yrX n8 (j + 1)) / (1048576)) % (25)))), some (.int (nI (((yrX n8 (j + 1)) / (16384)) % (4))))] [] (u2 hp41 (m + 5) (3 + (((yrX n8 (j + 1)) / (1048576)) % (25))) (mV (nI (((yrX n8 (j + 1)) / (65536)) % (6))) (nI (0)) (nI (0)))) gp41
              have hz1_ : rM (u2 hp41 (m + 5) (3 + (((yrX n8 (j + 1)) / (1048576)) % (25))) (mV (nI (((yrX n8 (j + 1)) / (65536)) % (6))) (nI (0)) (nI (0)))) (m + 5) (ySy (yrZ n8 j) (((yrX n8 (j + 1)) / (1048576)) % (25)) (((yrX n8 (j + 1)) / (65536)) % (6))) := by (unfold ySy; rw [if_pos hli_]; exact rM_say hc41_1 (by omega))
              have ho1_ : nOk (ySy (yrZ n8 j) (((yrX n8 (j + 1)) / (1048576)) % (25)) (((yrX n8 (j + 1)) / (65536)) % (6))) := ySy_ok yo_ (by omega)
              obtain ⟨z1, ez1_⟩ : ∃ z1, z1 = ySy (yrZ n8 j) (((yrX n8 (j + 1)) / (1048576)) % (25)) (((yrX n8 (j + 1)) / (65536)) % (6)) := ⟨_, rfl⟩
              rw [← ez1_] at hz1_ ho1_
              have hat1_ := ho1_.2.1
              refine X_aload_n C 0 (D (118, .aload_n 0, 1) (mg 65 rfl)) rfl rfl ?_
              refine X_get (v := .ref (wA w (m + 5))) C (m) 6 (by omega) hsm rfl rfl (by decide) inX8 fX8_27 rfl (D (119, .getfield 27, 3) (mg 66 rfl)) rfl ?_
              refine X_bipush (v := nI (28)) C (D (122, .bipush 28, 2) (mg 67 rfl)) (by decide) ?_
              refine X_iald (v := (u2 hp41 (m + 5) (3 + (((yrX n8 (j + 1)) / (1048576)) % (25))) (mV (nI (((yrX n8 (j + 1)) / (65536)) % (6))) (nI (0)) (nI (0)))) (m + 5) (28)) C (m + 5) (by omega) hs5 (vp_in_nI (by omega) (by omega)) (D (124, .iaload, 1) (mg 68 rfl)) (by rw [nI_clamp (by omega)]) ?_
              refine X_ti (y := nI (z1.2.1)) (hz1_.2.1) ?_
              refine X_iload C (D (125, .iload 7, 2) (mg 69 rfl)) rfl ?_
              refine X_cS (As := [.int (nI (z1.2.1)), .int (nI (((yrX n8 (j + 1)) / (16384)) % (4)))]) (st := []) C (post := _) (ct_X8_beside hw (j := z1.2.1) (by omega) (nI (((yrX n8 (j + 1)) / (16384)) % (4))) (u2 hp41 (m + 5) (3 + (((yrX n8 (j + 1)) / (1048576)) % (25))) (mV (nI (((yrX n8 (j + 1)) / (65536)) % (6))) (nI (0)) (nI (0)))) gp41) kX8_110 (by decide) (by decide) rfl rfl (Nat.le_of_ble_eq_true rfl) (D (127, .invokestatic 110, 3) (mg 70 rfl)) rfl (fun v45 H43 G44 hv45 => ?_)
              obtain ⟨rfl, rfl, rfl⟩ := hv45
              obtain ⟨y46, ey46⟩ : ∃ y, y = bsA (z1.2.1) (nI (((yrX n8 (j + 1)) / (16384)) % (4))) := ⟨_, rfl⟩
              have hy46 := bsA_alt (j := z1.2.1) (by omega) (nI (((yrX n8 (j + 1)) / (16384)) % (4)))
              rw [← ey46] at hy46
              rw [← ey46]
              show X k w _ 130 [some (.ref (wA w (m))), some (.int (nI (n8))), some (.int (nI (n13))), some (.long (lN (yrX n8 (j + 1)))), none, some (.int (nI (j))), some (.int (nI (((yrX n8 (j + 1)) / (1048576)) % (25)))), some (.int (nI (((yrX n8 (j + 1)) / (16384)) % (4))))] [.int (y46)] (u2 hp41 (m + 5) (3 + (((yrX n8 (j + 1)) / (1048576)) % (25))) (mV (nI (((yrX n8 (j + 1)) / (65536)) % (6))) (nI (0)) (nI (0)))) gp41
              refine X_iconst (v := (-1 : Int32)) C (D (130, .iconst (-1), 1) (mg 71 rfl)) (by decide) ?_
              refine X_icmp_eq (tgt := 143) C (D (131, .if_icmp .eq 12, 3) (mg 72 rfl)) (by decide) (fun q47 => ?_) (fun q47 => ?_)
              · skip
                subst q47
                have ex9_ := ey46
                rw [bs_all z1.2.1 (by omega) (((yrX n8 (j + 1)) / (16384)) % (4)) (by omega)] at ex9_
                have hbs_ := bs_m ex9_
                have hz2_ : rM (u2 hp41 (m + 5) (3 + (((yrX n8 (j + 1)) / (1048576)) % (25))) (mV (nI (((yrX n8 (j + 1)) / (65536)) % (6))) (nI (0)) (nI (0)))) (m + 5) (ySt z1 (((yrX n8 (j + 1)) / (16384)) % (4))) := by (unfold ySt; rw [if_neg hbs_]; exact hz1_)
                have ho2_ : nOk (ySt z1 (((yrX n8 (j + 1)) / (16384)) % (4))) := ySt_ok ho1_
                refine X_aload_n C 0 (D (143, .aload_n 0, 1) (mg 77 rfl)) rfl rfl ?_
                refine X_get (v := .ref (wA w (m + 5))) C (m) 6 (by omega) hsm rfl rfl (by decide) inX8 fX8_27 rfl (D (144, .getfield 27, 3) (mg 78 rfl)) rfl ?_
                refine X_cS (As := [.ref (wA w (m + 5))]) (st := []) C (post := _) (ct_X8_goWeek hw (⟨by omega, hs5, by omega, by omega⟩ : rw56 w (m + 5) 56) (u2 hp41 (m + 5) (3 + (((yrX n8 (j + 1)) / (1048576)) % (25))) (mV (nI (((yrX n8 (j + 1)) / (65536)) % (6))) (nI (0)) (nI (0)))) gp41) kX8_121 (by decide) (by decide) rfl rfl (Nat.le_of_ble_eq_true rfl) (D (147, .invokestatic 121, 3) (mg 79 rfl)) rfl (fun v50 H48 G49 hv50 => ?_)
                obtain ⟨rfl, rfl, rfl⟩ := hv50
                show X k w _ 150 [some (.ref (wA w (m))), some (.int (nI (n8))), some (.int (nI (n13))), some (.long (lN (yrX n8 (j + 1)))), none, some (.int (nI (j))), some (.int (nI (((yrX n8 (j + 1)) / (1048576)) % (25)))), some (.int (nI (((yrX n8 (j + 1)) / (16384)) % (4))))] [] (wkH (u2 hp41 (m + 5) (3 + (((yrX n8 (j + 1)) / (1048576)) % (25))) (mV (nI (((yrX n8 (j + 1)) / (65536)) % (6))) (nI (0)) (nI (0)))) (m + 5)) gp41
                refine X_iinc (v := nI (j + 1)) (ls' := [some (.ref (wA w (m))), some (.int (nI (n8))), some (.int (nI (n13))), some (.long (lN (yrX n8 (j + 1)))), none, some (.int (nI (j + 1))), some (.int (nI (((yrX n8 (j + 1)) / (1048576)) % (25)))), some (.int (nI (((yrX n8 (j + 1)) / (16384)) % (4))))]) C (D (150, .iinc 5 1, 3) (mg 80 rfl)) rfl (nI_add (j) 1) rfl ?_
                refine X_goto (tgt := 41) C (D (153, .goto (-112), 3) (mg 81 rfl)) (by decide) ?_
                refine X_los (ls' := [some (.ref (wA w (m))), some (.int (nI (n8))), some (.int (nI (n13))), some (.long (lN (yrX n8 (j + 1)))), none, some (.int (nI (j + 1))), none, none]) (by simp [lsub]) ?_
                refine X_eq (ls' := [some (.ref (wA w (m))), some (.int (nI (n8))), some (.int (nI (n13))), some (.long (lN (yrX n8 (j + 1)))), none, some (.int (nI (j + 1))), none, none]) (st' := []) (h' := (wkH (u2 hp41 (m + 5) (3 + (((yrX n8 (j + 1)) / (1048576)) % (25))) (mV (nI (((yrX n8 (j + 1)) / (65536)) % (6))) (nI (0)) (nI (0)))) (m + 5))) (g' := gp41) rfl rfl rfl rfl ?_
                exact ih41 (j + 1) ((wkH (u2 hp41 (m + 5) (3 + (((yrX n8 (j + 1)) / (1048576)) % (25))) (mV (nI (((yrX n8 (j + 1)) / (65536)) % (6))) (nI (0)) (nI (0)))) (m + 5))) (gp41) (by omega) (by subst ez1_; exact rM_wk hz2_ ho2_) (by omega)
              · skip
                obtain ⟨c51, hc51, rfl⟩ := hy46.resolve_left q47
                have ex9_ := ey46
                rw [bs_all z1.2.1 (by omega) (((yrX n8 (j + 1)) / (16384)) % (4)) (by omega)] at ex9_
                have hbs_ := bs_c (by omega) ex9_
                refine X_aload_n C 0 (D (134, .aload_n 0, 1) (mg 73 rfl)) rfl rfl ?_
                refine X_get (v := .ref (wA w (m + 5))) C (m) 6 (by omega) hsm rfl rfl (by decide) inX8 fX8_27 rfl (D (135, .getfield 27, 3) (mg 74 rfl)) rfl ?_
                refine X_iload C (D (138, .iload 7, 2) (mg 75 rfl)) rfl ?_
                refine X_cS (As := [.ref (wA w (m + 5)), .int (nI (((yrX n8 (j + 1)) / (16384)) % (4)))]) (st := []) C (post := _) (ct_X8_goStep hw (⟨by omega, hs5, by omega, by omega⟩ : rw56 w (m + 5) 56) (j := z1.2.1) (c := c51) (by omega) (by omega) (nI (((yrX n8 (j + 1)) / (16384)) % (4))) (u2 hp41 (m + 5) (3 + (((yrX n8 (j + 1)) / (1048576)) % (25))) (mV (nI (((yrX n8 (j + 1)) / (65536)) % (6))) (nI (0)) (nI (0)))) gp41 (hz1_.2.1) ey46.symm) kX8_134 (by decide) (by decide) rfl rfl (Nat.le_of_ble_eq_true rfl) (D (140, .invokestatic 134, 3) (mg 76 rfl)) rfl (fun v54 H52 G53 hv54 => ?_)
                obtain ⟨rfl, rfl, rfl⟩ := hv54
                show X k w _ 143 [some (.ref (wA w (m))), some (.int (nI (n8))), some (.int (nI (n13))), some (.long (lN (yrX n8 (j + 1)))), none, some (.int (nI (j))), some (.int (nI (((yrX n8 (j + 1)) / (1048576)) % (25)))), some (.int (nI (((yrX n8 (j + 1)) / (16384)) % (4))))] [] (stH (u2 hp41 (m + 5) (3 + (((yrX n8 (j + 1)) / (1048576)) % (25))) (mV (nI (((yrX n8 (j + 1)) / (65536)) % (6))) (nI (0)) (nI (0)))) (m + 5) (c51)) gp41
                have hz2_ : rM (stH (u2 hp41 (m + 5) (3 + (((yrX n8 (j + 1)) / (1048576)) % (25))) (mV (nI (((yrX n8 (j + 1)) / (65536)) % (6))) (nI (0)) (nI (0)))) (m + 5) (c51)) (m + 5) (ySt z1 (((yrX n8 (j + 1)) / (16384)) % (4))) := by (unfold ySt; rw [hbs_, if_pos (by omega)]; exact rM_stp hz1_ ho1_ (by omega))
                have ho2_ : nOk (ySt z1 (((yrX n8 (j + 1)) / (16384)) % (4))) := ySt_ok ho1_
                refine X_aload_n C 0 (D (143, .aload_n 0, 1) (mg 77 rfl)) rfl rfl ?_
                refine X_get (v := .ref (wA w (m + 5))) C (m) 6 (by omega) hsm rfl rfl (by decide) inX8 fX8_27 rfl (D (144, .getfield 27, 3) (mg 78 rfl)) rfl ?_
                refine X_cS (As := [.ref (wA w (m + 5))]) (st := []) C (post := _) (ct_X8_goWeek hw (⟨by omega, hs5, by omega, by omega⟩ : rw56 w (m + 5) 56) (stH (u2 hp41 (m + 5) (3 + (((yrX n8 (j + 1)) / (1048576)) % (25))) (mV (nI (((yrX n8 (j + 1)) / (65536)) % (6))) (nI (0)) (nI (0)))) (m + 5) (c51)) gp41) kX8_121 (by decide) (by decide) rfl rfl (Nat.le_of_ble_eq_true rfl) (D (147, .invokestatic 121, 3) (mg 79 rfl)) rfl (fun v57 H55 G56 hv57 => ?_)
                obtain ⟨rfl, rfl, rfl⟩ := hv57
                show X k w _ 150 [some (.ref (wA w (m))), some (.int (nI (n8))), some (.int (nI (n13))), some (.long (lN (yrX n8 (j + 1)))), none, some (.int (nI (j))), some (.int (nI (((yrX n8 (j + 1)) / (1048576)) % (25)))), some (.int (nI (((yrX n8 (j + 1)) / (16384)) % (4))))] [] (wkH (stH (u2 hp41 (m + 5) (3 + (((yrX n8 (j + 1)) / (1048576)) % (25))) (mV (nI (((yrX n8 (j + 1)) / (65536)) % (6))) (nI (0)) (nI (0)))) (m + 5) (c51)) (m + 5)) gp41
                refine X_iinc (v := nI (j + 1)) (ls' := [some (.ref (wA w (m))), some (.int (nI (n8))), some (.int (nI (n13))), some (.long (lN (yrX n8 (j + 1)))), none, some (.int (nI (j + 1))), some (.int (nI (((yrX n8 (j + 1)) / (1048576)) % (25)))), some (.int (nI (((yrX n8 (j + 1)) / (16384)) % (4))))]) C (D (150, .iinc 5 1, 3) (mg 80 rfl)) rfl (nI_add (j) 1) rfl ?_
                refine X_goto (tgt := 41) C (D (153, .goto (-112), 3) (mg 81 rfl)) (by decide) ?_
                refine X_los (ls' := [some (.ref (wA w (m))), some (.int (nI (n8))), some (.int (nI (n13))), some (.long (lN (yrX n8 (j + 1)))), none, some (.int (nI (j + 1))), none, none]) (by simp [lsub]) ?_
                refine X_eq (ls' := [some (.ref (wA w (m))), some (.int (nI (n8))), some (.int (nI (n13))), some (.long (lN (yrX n8 (j + 1)))), none, some (.int (nI (j + 1))), none, none]) (st' := []) (h' := (wkH (stH (u2 hp41 (m + 5) (3 + (((yrX n8 (j + 1)) / (1048576)) % (25))) (mV (nI (((yrX n8 (j + 1)) / (65536)) % (6))) (nI (0)) (nI (0)))) (m + 5) (c51)) (m + 5))) (g' := gp41) rfl rfl rfl rfl ?_
                exact ih41 (j + 1) ((wkH (stH (u2 hp41 (m + 5) (3 + (((yrX n8 (j + 1)) / (1048576)) % (25))) (mV (nI (((yrX n8 (j + 1)) / (65536)) % (6))) (nI (0)) (nI (0)))) (m + 5) (c51)) (m + 5))) (gp41) (by omega) (by subst ez1_; exact rM_wk hz2_ ho2_) (by omega)
      refine X_eq (ls' := [some (.ref (wA w (m))), some (.int (nI (n8))), some (.int (nI (n13))), some (.long (lN (yrX n8 (0)))), none, some (.int (nI (0))), none, none]) (st' := []) (h' := (haH h m)) (g' := g) rfl rfl rfl rfl ?_
      exact lp41 _ (0) ((haH h m)) (g) (by omega) (mFr_rM hF) (Nat.le_refl _)
    · skip
      have q12 : ¬ ((lN (0)).toInt ≤ ((a2).toInt64).toInt ∧ ((a2).toInt64).toInt ≤ (lN (60)).toInt) := bz0.mp q12
      simp only [i6, pk_lT (n := 0) (by omega), pk_lT (n := 60) (by omega)] at q12
      refine X_aload_n C 0 (D (24, .aload_n 0, 1) (mg 12 rfl)) rfl rfl ?_
      refine X_bipush (v := (-2 : Int32)) C (D (25, .bipush (-2), 2) (mg 13 rfl)) (by decide) ?_
      refine X_cV (As := [.int ((-2 : Int32))]) (st := []) C (post := _) (m) (by omega) hsm rfl (ct_X8_bad hw hM ((-2 : Int32)) h g) kX8_75 (by decide) (by decide) rfl rfl (Nat.le_of_ble_eq_true rfl) (D (27, .invokevirtual 75, 3) (mg 14 rfl)) rfl (fun v60 H58 G59 hv60 => ?_)
      obtain ⟨rfl, rfl, rfl⟩ := hv60
      show X k w _ 30 [some (.ref (wA w (m))), some (.int (nI (n8))), some (.int (a2)), none, none, none, none, none] [.int ((-2 : Int32))] (rfH h m 0) g
      exact X_iret C (D (30, .ireturn, 1) (mg 15 rfl)) (by rw [← hPP]; exact pRo_i (if_neg (by omega)))
set_option maxHeartbeats 4000000 in
set_option maxRecDepth 100000 in
theorem cx_X8_sums {l : Launch} {w : Kw} (hw : wOk w) {m : Nat} (hM : shM w m) (d0 : Int64) {f0 : Nat} (h : xI) (g : xJ)  : Ct l w yX8_sums cX8_sums 8 (some .long) 0 0 [.ref (wA w (m)), .long (d0), .int (nI (f0)), .int (nI (0))] h g (px (some (.long d0)) h g) := by
  refine Ct_of (ls := [some (.ref (wA w (m))), some (.long (d0)), none, some (.int (nI (f0))), some (.int (nI (0))), none, none, none]) (by decide) hw (Nat.le_of_ble_eq_true rfl) rfl (fun k hkl C => ?_)
  have C : Cx k w cX8_sums RX8 8 (some .long) 0 0 := C
  have D := dtX8_sums
  subst hkl
  have hM0 := hM
  obtain ⟨hm, hsm, hs1, hs2, hs3, hs4, hs5, hs6, hs7, hs8, hs9, hs10, hs11⟩ := hM
  have hM := hM0
  refine X_lload_n C 1 (D (0, .lload_n 1, 1) (mg 0 rfl)) rfl rfl ?_
  refine X_lstore (ls' := [some (.ref (wA w (m))), some (.long (d0)), none, some (.int (nI (f0))), some (.int (nI (0))), some (.long (d0)), none, none]) C (D (1, .lstore 5, 2) (mg 1 rfl)) (Nat.le_of_ble_eq_true rfl) rfl ?_
  refine X_iconst (v := nI (0)) C (D (3, .iconst 0, 1) (mg 2 rfl)) (by decide) ?_
  refine X_istore (ls' := [some (.ref (wA w (m))), some (.long (d0)), none, some (.int (nI (f0))), some (.int (nI (0))), some (.long (d0)), none, some (.int (nI (0)))]) C (D (4, .istore 7, 2) (mg 3 rfl)) (Nat.le_of_ble_eq_true rfl) rfl ?_
  refine X_iload C (D (6, .iload 7, 2) (mg 4 rfl)) rfl ?_
  refine X_iload C (D (8, .iload 4, 2) (mg 5 rfl)) rfl ?_
  refine X_icmp_ge (tgt := 38) C (D (10, .if_icmp .ge 28, 3) (mg 6 rfl)) (by decide) (fun q1 => ?_) (fun q1 => ?_)
  · skip
    refine X_lload C (D (38, .lload 5, 2) (mg 21 rfl)) rfl ?_
    exact X_lret C (D (40, .lreturn, 1) (mg 22 rfl)) ⟨rfl, rfl, rfl⟩
  · skip
    exact absurd q1 (by decide)
set_option maxHeartbeats 4000000 in
set_option maxRecDepth 100000 in
theorem cx_X8_digest {l : Launch} {w : Kw} (hw : wOk w) {m : Nat} (hM : shM w m) (h : xI) (g : xJ) (hF : mFr m h) : Ct l w yX8_digest cX8_digest 5 (some .long) 4 90 [.ref (wA w (m))] h g (pRl (31 * (31 * dg2 25 + g m 4) + g m 5)) := by
  refine Ct_of (ls := [some (.ref (wA w (m))), none, none, none, none]) (by decide) hw (Nat.le_of_ble_eq_true rfl) rfl (fun k hkl C => ?_)
  have C : Cx k w cX8_digest RX8 5 (some .long) 4 90 := C
  have D := dtX8_digest
  subst hkl
  have hM0 := hM
  obtain ⟨hm, hsm, hs1, hs2, hs3, hs4, hs5, hs6, hs7, hs8, hs9, hs10, hs11⟩ := hM
  have hM := hM0
  have hF0 := hF
  obtain ⟨hZ, hTx, hRf⟩ := hF
  have hF := hF0
  refine X_ldc2 C (D (0, .ldc2_w 304, 3) (mg 0 rfl)) vX8_304 ?_
  refine X_lstore_n (ls' := [some (.ref (wA w (m))), some (.long ((1741 : Int64))), none, none, none]) C 1 (D (3, .lstore_n 1, 1) (mg 1 rfl)) rfl (Nat.le_of_ble_eq_true rfl) rfl ?_
  refine X_iconst (v := nI (0)) C (D (4, .iconst 0, 1) (mg 2 rfl)) (by decide) ?_
  refine X_istore_n (ls' := [some (.ref (wA w (m))), some (.long ((1741 : Int64))), none, some (.int (nI (0))), none]) C 3 (D (5, .istore_n 3, 1) (mg 3 rfl)) rfl (Nat.le_of_ble_eq_true rfl) rfl ?_
  have lp6 : ∀ (nn6 : Nat) (j : Nat), (j ≤ 10) → 11 - j ≤ nn6 → X k w (Zq k w (pRl (31 * (31 * dg2 25 + g m 4) + g m 5))) 6 [some (.ref (wA w (m))), some (.long (dg1 (j))), none, some (.int (nI (j))), none] [] h g := by
    intro nn6
    induction nn6 with
    | zero => intro j hc6_0 hz; exact absurd hz (by omega)
    | succ nn6 ih6 =>
      intro j hc6_0 hz6
      refine X_iload_n C 3 (D (6, .iload_n 3, 1) (mg 4 rfl)) rfl rfl ?_
      refine X_bipush (v := nI (10)) C (D (7, .bipush 10, 2) (mg 5 rfl)) (by decide) ?_
      refine X_icmp_ge (tgt := 31) C (D (9, .if_icmp .ge 22, 3) (mg 6 rfl)) (by decide) (fun q1 => ?_) (fun q1 => ?_)
      · skip
        have q1 : (j) ≥ (10) := by have z := (nI_leI (a := (10)) (b := (j)) (by omega) (by omega)).mp q1; omega
        refine X_iconst (v := nI (0)) C (D (31, .iconst 0, 1) (mg 18 rfl)) (by decide) ?_
        refine X_istore_n (ls' := [some (.ref (wA w (m))), some (.long (dg1 (j))), none, some (.int (nI (0))), none]) C 3 (D (32, .istore_n 3, 1) (mg 19 rfl)) rfl (Nat.le_of_ble_eq_true rfl) rfl ?_
        have lp33 : ∀ (nn33 : Nat) (j3 : Nat), (j3 ≤ 25) → 26 - j3 ≤ nn33 → X k w (Zq k w (pRl (31 * (31 * dg2 25 + g m 4) + g m 5))) 33 [some (.ref (wA w (m))), some (.long (dg2 (j3))), none, some (.int (nI (j3))), none] [] h g := by
          intro nn33
          induction nn33 with
          | zero => intro j3 hc33_0 hz; exact absurd hz (by omega)
          | succ nn33 ih33 =>
            intro j3 hc33_0 hz33
            refine X_iload_n C 3 (D (33, .iload_n 3, 1) (mg 20 rfl)) rfl rfl ?_
            refine X_bipush (v := nI (25)) C (D (34, .bipush 25, 2) (mg 21 rfl)) (by decide) ?_
            refine X_icmp_ge (tgt := 75) C (D (36, .if_icmp .ge 39, 3) (mg 22 rfl)) (by decide) (fun q2 => ?_) (fun q2 => ?_)
            · skip
              have q2 : (j3) ≥ (25) := by have z := (nI_leI (a := (25)) (b := (j3)) (by omega) (by omega)).mp q2; omega
              refine X_aload_n C 0 (D (75, .aload_n 0, 1) (mg 42 rfl)) rfl rfl ?_
              refine X_lload_n C 1 (D (76, .lload_n 1, 1) (mg 43 rfl)) rfl rfl ?_
              refine X_bipush (v := nI (56)) C (D (77, .bipush 56, 2) (mg 44 rfl)) (by decide) ?_
              refine X_iconst (v := nI (4)) C (D (79, .iconst 4, 1) (mg 45 rfl)) (by decide) ?_
              refine X_aload_n C 0 (D (80, .aload_n 0, 1) (mg 46 rfl)) rfl rfl ?_
              refine X_get (v := .ref (wA w (m + 1))) C (m) 0 (by omega) hsm rfl rfl (by decide) inX8 fX8_7 rfl (D (81, .getfield 7, 3) (mg 47 rfl)) rfl ?_
              refine X_iconst (v := nI (0)) C (D (84, .iconst 0, 1) (mg 48 rfl)) (by decide) ?_
              refine X_iald (v := h (m + 1) (0)) C (m + 1) (by omega) hs1 (vp_in_nI (by omega) (by omega)) (D (85, .iaload, 1) (mg 49 rfl)) (by rw [nI_clamp (by omega)]) ?_
              refine X_ti (y := nI (0)) ((hZ 0 (by omega))) ?_
              refine X_imul C (D (86, .imul, 1) (mg 50 rfl)) ?_
              refine X_ti (y := nI (0)) (pk_mul 4 0) ?_
              refine X_cV (As := [.long (dg2 (j3)), .int (nI (56)), .int (nI (0))]) (st := []) C (post := _) (m) (by omega) hsm rfl (cx_X8_sums hw hM (dg2 (j3)) (f0 := 56) h g) kX8_306 (by decide) (by decide) rfl rfl (Nat.le_of_ble_eq_true rfl) (D (87, .invokevirtual 306, 3) (mg 51 rfl)) rfl (fun v5 H3 G4 hv5 => ?_)
              obtain ⟨rfl, rfl, rfl⟩ := hv5
              show X k w _ 90 [some (.ref (wA w (m))), some (.long (dg2 (j3))), none, some (.int (nI (j3))), none] [.long (dg2 (j3))] h g
              refine X_lstore_n (ls' := [some (.ref (wA w (m))), some (.long (dg2 (j3))), none, some (.int (nI (j3))), none]) C 1 (D (90, .lstore_n 1, 1) (mg 52 rfl)) rfl (Nat.le_of_ble_eq_true rfl) rfl ?_
              refine X_aload_n C 0 (D (91, .aload_n 0, 1) (mg 53 rfl)) rfl rfl ?_
              refine X_lload_n C 1 (D (92, .lload_n 1, 1) (mg 54 rfl)) rfl rfl ?_
              refine X_bipush (v := nI (76)) C (D (93, .bipush 76, 2) (mg 55 rfl)) (by decide) ?_
              refine X_iconst (v := nI (3)) C (D (95, .iconst 3, 1) (mg 56 rfl)) (by decide) ?_
              refine X_aload_n C 0 (D (96, .aload_n 0, 1) (mg 57 rfl)) rfl rfl ?_
              refine X_get (v := .ref (wA w (m + 1))) C (m) 0 (by omega) hsm rfl rfl (by decide) inX8 fX8_7 rfl (D (97, .getfield 7, 3) (mg 58 rfl)) rfl ?_
              refine X_iconst (v := nI (1)) C (D (100, .iconst 1, 1) (mg 59 rfl)) (by decide) ?_
              refine X_iald (v := h (m + 1) (1)) C (m + 1) (by omega) hs1 (vp_in_nI (by omega) (by omega)) (D (101, .iaload, 1) (mg 60 rfl)) (by rw [nI_clamp (by omega)]) ?_
              refine X_ti (y := nI (0)) ((hZ 1 (by omega))) ?_
              refine X_imul C (D (102, .imul, 1) (mg 61 rfl)) ?_
              refine X_ti (y := nI (0)) (pk_mul 3 0) ?_
              refine X_cV (As := [.long (dg2 (j3)), .int (nI (76)), .int (nI (0))]) (st := []) C (post := _) (m) (by omega) hsm rfl (cx_X8_sums hw hM (dg2 (j3)) (f0 := 76) h g) kX8_306 (by decide) (by decide) rfl rfl (Nat.le_of_ble_eq_true rfl) (D (103, .invokevirtual 306, 3) (mg 62 rfl)) rfl (fun v8 H6 G7 hv8 => ?_)
              obtain ⟨rfl, rfl, rfl⟩ := hv8
              show X k w _ 106 [some (.ref (wA w (m))), some (.long (dg2 (j3))), none, some (.int (nI (j3))), none] [.long (dg2 (j3))] h g
              refine X_lstore_n (ls' := [some (.ref (wA w (m))), some (.long (dg2 (j3))), none, some (.int (nI (j3))), none]) C 1 (D (106, .lstore_n 1, 1) (mg 63 rfl)) rfl (Nat.le_of_ble_eq_true rfl) rfl ?_
              refine X_ldc2 C (D (107, .ldc2_w 302, 3) (mg 64 rfl)) vX8_302 ?_
              refine X_ldc2 C (D (110, .ldc2_w 302, 3) (mg 65 rfl)) vX8_302 ?_
              refine X_lload_n C 1 (D (113, .lload_n 1, 1) (mg 66 rfl)) rfl rfl ?_
              refine X_lmul C (D (114, .lmul, 1) (mg 67 rfl)) ?_
              refine X_aload_n C 0 (D (115, .aload_n 0, 1) (mg 68 rfl)) rfl rfl ?_
              refine X_get (v := .long (g (m) 4)) C (m) 4 (by omega) hsm rfl rfl (by decide) inX8 fX8_207 rfl (D (116, .getfield 207, 3) (mg 69 rfl)) rfl ?_
              refine X_ladd C (D (119, .ladd, 1) (mg 70 rfl)) ?_
              refine X_lmul C (D (120, .lmul, 1) (mg 71 rfl)) ?_
              refine X_aload_n C 0 (D (121, .aload_n 0, 1) (mg 72 rfl)) rfl rfl ?_
              refine X_get (v := .long (g (m) 5)) C (m) 5 (by omega) hsm rfl rfl (by decide) inX8 fX8_23 rfl (D (122, .getfield 23, 3) (mg 73 rfl)) rfl ?_
              refine X_ladd C (D (125, .ladd, 1) (mg 74 rfl)) ?_
              exact X_lret C (D (126, .lreturn, 1) (mg 75 rfl)) (pRl_i (by rw [show j3 = 25 by omega]))
            · skip
              have q2 : (j3) < (25) := by have z : ¬ ((25) ≤ (j3)) := fun u => q2 ((nI_leI (a := (25)) (b := (j3)) (by omega) (by omega)).mpr u); omega
              refine X_iconst (v := nI (0)) C (D (39, .iconst 0, 1) (mg 23 rfl)) (by decide) ?_
              refine X_istore (ls' := [some (.ref (wA w (m))), some (.long (dg2 (j3))), none, some (.int (nI (j3))), some (.int (nI (0)))]) C (D (40, .istore 4, 2) (mg 24 rfl)) (Nat.le_of_ble_eq_true rfl) rfl ?_
              have lp42 : ∀ (nn42 : Nat) (i4 : Nat), (i4 ≤ 4) → 5 - i4 ≤ nn42 → X k w (Zq k w (pRl (31 * (31 * dg2 25 + g m 4) + g m 5))) 42 [some (.ref (wA w (m))), some (.long (dgP (dg2 (j3)) (i4))), none, some (.int (nI (j3))), some (.int (nI (i4)))] [] h g := by
                intro nn42
                induction nn42 with
                | zero => intro i4 hc42_0 hz; exact absurd hz (by omega)
                | succ nn42 ih42 =>
                  intro i4 hc42_0 hz42
                  refine X_iload C (D (42, .iload 4, 2) (mg 25 rfl)) rfl ?_
                  refine X_iconst (v := nI (4)) C (D (44, .iconst 4, 1) (mg 26 rfl)) (by decide) ?_
                  refine X_icmp_ge (tgt := 69) C (D (45, .if_icmp .ge 24, 3) (mg 27 rfl)) (by decide) (fun q9 => ?_) (fun q9 => ?_)
                  · skip
                    have q9 : (i4) ≥ (4) := by have z := (nI_leI (a := (4)) (b := (i4)) (by omega) (by omega)).mp q9; omega
                    refine X_iinc (v := nI (j3 + 1)) (ls' := [some (.ref (wA w (m))), some (.long (dgP (dg2 (j3)) (i4))), none, some (.int (nI (j3 + 1))), some (.int (nI (i4)))]) C (D (69, .iinc 3 1, 3) (mg 40 rfl)) rfl (nI_add (j3) 1) rfl ?_
                    refine X_goto (tgt := 33) C (D (72, .goto (-39), 3) (mg 41 rfl)) (by decide) ?_
                    refine X_los (ls' := [some (.ref (wA w (m))), some (.long (dgP (dg2 (j3)) (i4))), none, some (.int (nI (j3 + 1))), none]) (by simp [lsub]) ?_
                    refine X_eq (ls' := [some (.ref (wA w (m))), some (.long (dg2 (j3 + 1))), none, some (.int (nI (j3 + 1))), none]) (st' := []) (h' := h) (g' := g) (by rw [show i4 = 4 by omega, dgP_4]) rfl rfl rfl ?_
                    exact ih33 (j3 + 1) (by omega) (by omega)
                  · skip
                    have q9 : (i4) < (4) := by have z : ¬ ((4) ≤ (i4)) := fun u => q9 ((nI_leI (a := (4)) (b := (i4)) (by omega) (by omega)).mpr u); omega
                    refine X_ldc2 C (D (48, .ldc2_w 302, 3) (mg 28 rfl)) vX8_302 ?_
                    refine X_lload_n C 1 (D (51, .lload_n 1, 1) (mg 29 rfl)) rfl rfl ?_
                    refine X_lmul C (D (52, .lmul, 1) (mg 30 rfl)) ?_
                    refine X_aload_n C 0 (D (53, .aload_n 0, 1) (mg 31 rfl)) rfl rfl ?_
                    refine X_iload_n C 3 (D (54, .iload_n 3, 1) (mg 32 rfl)) rfl rfl ?_
                    refine X_iload C (D (55, .iload 4, 2) (mg 33 rfl)) rfl ?_
                    refine X_cV (As := [.int (nI (j3)), .int (nI (i4))]) (st := [.long (((31 : Int64)) * (dgP (dg2 (j3)) (i4)))]) C (post := _) (m) (by omega) hsm rfl (ct_X8_toldOf hw hM (by omega) (nI (i4)) h g) kX8_146 (by decide) (by decide) rfl rfl (Nat.le_of_ble_eq_true rfl) (D (57, .invokevirtual 146, 3) (mg 34 rfl)) rfl (fun v12 H10 G11 hv12 => ?_)
                    obtain ⟨rfl, rfl, rfl⟩ := hv12
                    show X k w _ 60 [some (.ref (wA w (m))), some (.long (dgP (dg2 (j3)) (i4))), none, some (.int (nI (j3))), some (.int (nI (i4)))] [.int (tdO h (m + 1) (j3) (nI (i4))), .long (((31 : Int64)) * (dgP (dg2 (j3)) (i4)))] h g
                    refine X_ti (y := if i4 = 0 then nI 0 else (-1 : Int32)) (td_0 hF (by omega) (by omega)) ?_
                    refine X_i2l C (D (60, .i2l, 1) (mg 35 rfl)) ?_
                    refine X_ladd C (D (61, .ladd, 1) (mg 36 rfl)) ?_
                    refine X_lstore_n (ls' := [some (.ref (wA w (m))), some (.long ((((31 : Int64)) * (dgP (dg2 (j3)) (i4))) + ((if i4 = 0 then nI 0 else (-1 : Int32)).toInt64))), none, some (.int (nI (j3))), some (.int (nI (i4)))]) C 1 (D (62, .lstore_n 1, 1) (mg 37 rfl)) rfl (Nat.le_of_ble_eq_true rfl) rfl ?_
                    refine X_iinc (v := nI (i4 + 1)) (ls' := [some (.ref (wA w (m))), some (.long ((((31 : Int64)) * (dgP (dg2 (j3)) (i4))) + ((if i4 = 0 then nI 0 else (-1 : Int32)).toInt64))), none, some (.int (nI (j3))), some (.int (nI (i4 + 1)))]) C (D (63, .iinc 4 1, 3) (mg 38 rfl)) rfl (nI_add (i4) 1) rfl ?_
                    refine X_goto (tgt := 42) C (D (66, .goto (-24), 3) (mg 39 rfl)) (by decide) ?_
                    refine X_eq (ls' := [some (.ref (wA w (m))), some (.long (dgP (dg2 (j3)) (i4 + 1))), none, some (.int (nI (j3))), some (.int (nI (i4 + 1)))]) (st' := []) (h' := h) (g' := g) (by rw [dgP_s]) rfl rfl rfl ?_
                    exact ih42 (i4 + 1) (by omega) (by omega)
              refine X_eq (ls' := [some (.ref (wA w (m))), some (.long (dgP (dg2 (j3)) (0))), none, some (.int (nI (j3))), some (.int (nI (0)))]) (st' := []) (h' := h) (g' := g) rfl rfl rfl rfl ?_
              exact lp42 _ (0) (by omega) (Nat.le_refl _)
        refine X_eq (ls' := [some (.ref (wA w (m))), some (.long (dg2 (0))), none, some (.int (nI (0))), none]) (st' := []) (h' := h) (g' := g) (by rw [show j = 10 by omega]; rfl) rfl rfl rfl ?_
        exact lp33 _ (0) (by omega) (Nat.le_refl _)
      · skip
        have q1 : (j) < (10) := by have z : ¬ ((10) ≤ (j)) := fun u => q1 ((nI_leI (a := (10)) (b := (j)) (by omega) (by omega)).mpr u); omega
        refine X_ldc2 C (D (12, .ldc2_w 302, 3) (mg 7 rfl)) vX8_302 ?_
        refine X_lload_n C 1 (D (15, .lload_n 1, 1) (mg 8 rfl)) rfl rfl ?_
        refine X_lmul C (D (16, .lmul, 1) (mg 9 rfl)) ?_
        refine X_aload_n C 0 (D (17, .aload_n 0, 1) (mg 10 rfl)) rfl rfl ?_
        refine X_iload_n C 3 (D (18, .iload_n 3, 1) (mg 11 rfl)) rfl rfl ?_
        refine X_cV (As := [.int (nI (j))]) (st := [.long (((31 : Int64)) * (dg1 (j)))]) C (post := _) (m) (by omega) hsm rfl (ct_X8_counted hw hM (by omega) h g) kX8_299 (by decide) (by decide) rfl rfl (Nat.le_of_ble_eq_true rfl) (D (19, .invokevirtual 299, 3) (mg 12 rfl)) rfl (fun v15 H13 G14 hv15 => ?_)
        obtain ⟨rfl, rfl, rfl⟩ := hv15
        show X k w _ 22 [some (.ref (wA w (m))), some (.long (dg1 (j))), none, some (.int (nI (j))), none] [.int (ctO h m (j)), .long (((31 : Int64)) * (dg1 (j)))] h g
        refine X_ti (y := nI (0)) (ct_0 hF (by omega)) ?_
        refine X_i2l C (D (22, .i2l, 1) (mg 13 rfl)) ?_
        refine X_ladd C (D (23, .ladd, 1) (mg 14 rfl)) ?_
        refine X_lstore_n (ls' := [some (.ref (wA w (m))), some (.long ((((31 : Int64)) * (dg1 (j))) + ((nI (0)).toInt64))), none, some (.int (nI (j))), none]) C 1 (D (24, .lstore_n 1, 1) (mg 15 rfl)) rfl (Nat.le_of_ble_eq_true rfl) rfl ?_
        refine X_iinc (v := nI (j + 1)) (ls' := [some (.ref (wA w (m))), some (.long ((((31 : Int64)) * (dg1 (j))) + ((nI (0)).toInt64))), none, some (.int (nI (j + 1))), none]) C (D (25, .iinc 3 1, 3) (mg 16 rfl)) rfl (nI_add (j) 1) rfl ?_
        refine X_goto (tgt := 6) C (D (28, .goto (-22), 3) (mg 17 rfl)) (by decide) ?_
        refine X_eq (ls' := [some (.ref (wA w (m))), some (.long (dg1 (j + 1))), none, some (.int (nI (j + 1))), none]) (st' := []) (h' := h) (g' := g) (by rw [dg1_s]) rfl rfl rfl ?_
        exact ih6 (j + 1) (by omega) (by omega)
  refine X_eq (ls' := [some (.ref (wA w (m))), some (.long (dg1 (0))), none, some (.int (nI (0))), none]) (st' := []) (h' := h) (g' := g) rfl rfl rfl rfl ?_
  exact lp6 _ (0) (by omega) (Nat.le_refl _)
