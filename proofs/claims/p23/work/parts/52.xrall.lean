/-! PHASE 2, THE REFERENCE: takesItem, read, exact -/
set_option maxHeartbeats 4000000 in
set_option maxRecDepth 100000 in
theorem cx_X8_takesItem {l : Launch} {w : Kw} (hw : wOk w) {m : Nat} (hM : shM w m) {B : Nat → Int32} {n p : Nat} (hn : n ≤ 150) (hp : p ≤ n) {z : nS} (h : xI) (g : xJ) (hb : h m 11 = nI n) (hB : ∀ i, i < n → h (m + 9) i = B i) (hk : kM B n p m h) (hrc : rM h (m + 10) z) (hok : nOk z) (hao : aOk h m) (hwb : wB h (m + 10) p) : Ct l w yX8_takesItem cX8_takesItem 1 (some .boolean) 6 132 [.ref (wA w (m))] h g (pBr (pItM B n p z) (xM B n m h (pItM B n p z))) := by
  refine Ct_of (ls := [some (.ref (wA w (m)))]) (by decide) hw (Nat.le_of_ble_eq_true rfl) rfl (fun k hkl C => ?_)
  have C : Cx k w cX8_takesItem RX8 1 (some .boolean) 6 132 := C
  have D := dtX8_takesItem
  subst hkl
  have hM0 := hM
  obtain ⟨hm, hsm, hs1, hs2, hs3, hs4, hs5, hs6, hs7, hs8, hs9, hs10, hs11⟩ := hM
  have hM := hM0
  obtain ⟨ht12, ht13, ht14, ht15⟩ := hk
  have hle0 : tE B n p ≤ n := tE_le hp
  have hse0 := tSE B n p
  have hty0 := tT_le B n p
  have hao0 := hao
  obtain ⟨ao0, ao1, ao2, c0, hc0, ao28⟩ := hao
  have hao := hao0
  have hge0 := tE_ge B n p
  have hge1 := tE_ge B n (tE B n p)
  have hge2 := tE_ge B n (tE B n (tE B n p))
  have ha0 := hok.2.1
  refine X_aload_n C 0 (D (0, .aload_n 0, 1) (mg 0 rfl)) rfl rfl ?_
  refine X_iconst (v := nI (5)) C (D (1, .iconst 5, 1) (mg 1 rfl)) (by decide) ?_
  refine X_bipush (v := nI (115)) C (D (2, .bipush 115, 2) (mg 2 rfl)) (by decide) ?_
  refine X_bipush (v := nI (116)) C (D (4, .bipush 116, 2) (mg 3 rfl)) (by decide) ?_
  refine X_bipush (v := nI (111)) C (D (6, .bipush 111, 2) (mg 4 rfl)) (by decide) ?_
  refine X_bipush (v := nI (110)) C (D (8, .bipush 110, 2) (mg 5 rfl)) (by decide) ?_
  refine X_bipush (v := nI (121)) C (D (10, .bipush 121, 2) (mg 6 rfl)) (by decide) ?_
  refine X_iconst (v := nI (0)) C (D (12, .iconst 0, 1) (mg 7 rfl)) (by decide) ?_
  refine X_cV (As := [.int (nI (5)), .int (nI (115)), .int (nI (116)), .int (nI (111)), .int (nI (110)), .int (nI (121)), .int (nI (0))]) (st := []) C (post := _) (m) (by omega) hsm rfl (cx_X8_spells hw hM (B := B) (n := n) (p := p) hn (by omega) (z0 := 5) (by omega) (nI (115)) (nI (116)) (nI (111)) (nI (110)) (nI (121)) (nI (0)) (i := 1) (by decide) rfl (by decide) h g (hb) hB ⟨(ht12), (ht13), (ht14), ht15⟩) kX8_277 (by decide) (by decide) rfl rfl (Nat.le_of_ble_eq_true rfl) (D (13, .invokevirtual 277, 3) (mg 8 rfl)) rfl (fun v3 H1 G2 hv3 => ?_)
  obtain ⟨⟨y4, rfl, h01y4, hiy4⟩, rfl, rfl⟩ := hv3
  show X k w _ 16 [some (.ref (wA w (m)))] [.int (y4)] h g
  refine X_if_eq (tgt := 24) C (D (16, .ifCond .eq 8, 3) (mg 9 rfl)) (by decide) (fun q5 => ?_) (fun q5 => ?_)
  · skip
    have hwy4 : ¬ isW B n (p) 1 := fun u_ => (hiy4).mpr u_ q5
    refine X_aload_n C 0 (D (24, .aload_n 0, 1) (mg 13 rfl)) rfl rfl ?_
    refine X_iconst (v := nI (3)) C (D (25, .iconst 3, 1) (mg 14 rfl)) (by decide) ?_
    refine X_bipush (v := nI (115)) C (D (26, .bipush 115, 2) (mg 15 rfl)) (by decide) ?_
    refine X_bipush (v := nI (97)) C (D (28, .bipush 97, 2) (mg 16 rfl)) (by decide) ?_
    refine X_bipush (v := nI (121)) C (D (30, .bipush 121, 2) (mg 17 rfl)) (by decide) ?_
    refine X_iconst (v := nI (0)) C (D (32, .iconst 0, 1) (mg 18 rfl)) (by decide) ?_
    refine X_iconst (v := nI (0)) C (D (33, .iconst 0, 1) (mg 19 rfl)) (by decide) ?_
    refine X_iconst (v := nI (0)) C (D (34, .iconst 0, 1) (mg 20 rfl)) (by decide) ?_
    refine X_cV (As := [.int (nI (3)), .int (nI (115)), .int (nI (97)), .int (nI (121)), .int (nI (0)), .int (nI (0)), .int (nI (0))]) (st := []) C (post := _) (m) (by omega) hsm rfl (cx_X8_spells hw hM (B := B) (n := n) (p := p) hn (by omega) (z0 := 3) (by omega) (nI (115)) (nI (97)) (nI (121)) (nI (0)) (nI (0)) (nI (0)) (i := 2) (by decide) rfl (by decide) h g (hb) hB ⟨(ht12), (ht13), (ht14), ht15⟩) kX8_277 (by decide) (by decide) rfl rfl (Nat.le_of_ble_eq_true rfl) (D (35, .invokevirtual 277, 3) (mg 21 rfl)) rfl (fun v8 H6 G7 hv8 => ?_)
    obtain ⟨⟨y9, rfl, h01y9, hiy9⟩, rfl, rfl⟩ := hv8
    show X k w _ 38 [some (.ref (wA w (m)))] [.int (y9)] h g
    refine X_if_eq (tgt := 46) C (D (38, .ifCond .eq 8, 3) (mg 22 rfl)) (by decide) (fun q10 => ?_) (fun q10 => ?_)
    · skip
      have hwy9 : ¬ isW B n (p) 2 := fun u_ => (hiy9).mpr u_ q10
      refine X_aload_n C 0 (D (46, .aload_n 0, 1) (mg 26 rfl)) rfl rfl ?_
      refine X_iconst (v := nI (4)) C (D (47, .iconst 4, 1) (mg 27 rfl)) (by decide) ?_
      refine X_bipush (v := nI (100)) C (D (48, .bipush 100, 2) (mg 28 rfl)) (by decide) ?_
      refine X_bipush (v := nI (114)) C (D (50, .bipush 114, 2) (mg 29 rfl)) (by decide) ?_
      refine X_bipush (v := nI (97)) C (D (52, .bipush 97, 2) (mg 30 rfl)) (by decide) ?_
      refine X_bipush (v := nI (103)) C (D (54, .bipush 103, 2) (mg 31 rfl)) (by decide) ?_
      refine X_iconst (v := nI (0)) C (D (56, .iconst 0, 1) (mg 32 rfl)) (by decide) ?_
      refine X_iconst (v := nI (0)) C (D (57, .iconst 0, 1) (mg 33 rfl)) (by decide) ?_
      refine X_cV (As := [.int (nI (4)), .int (nI (100)), .int (nI (114)), .int (nI (97)), .int (nI (103)), .int (nI (0)), .int (nI (0))]) (st := []) C (post := _) (m) (by omega) hsm rfl (cx_X8_spells hw hM (B := B) (n := n) (p := p) hn (by omega) (z0 := 4) (by omega) (nI (100)) (nI (114)) (nI (97)) (nI (103)) (nI (0)) (nI (0)) (i := 3) (by decide) rfl (by decide) h g (hb) hB ⟨(ht12), (ht13), (ht14), ht15⟩) kX8_277 (by decide) (by decide) rfl rfl (Nat.le_of_ble_eq_true rfl) (D (58, .invokevirtual 277, 3) (mg 34 rfl)) rfl (fun v13 H11 G12 hv13 => ?_)
      obtain ⟨⟨y14, rfl, h01y14, hiy14⟩, rfl, rfl⟩ := hv13
      show X k w _ 61 [some (.ref (wA w (m)))] [.int (y14)] h g
      refine X_if_eq (tgt := 69) C (D (61, .ifCond .eq 8, 3) (mg 35 rfl)) (by decide) (fun q15 => ?_) (fun q15 => ?_)
      · skip
        have hwy14 : ¬ isW B n (p) 3 := fun u_ => (hiy14).mpr u_ q15
        refine X_aload_n C 0 (D (69, .aload_n 0, 1) (mg 39 rfl)) rfl rfl ?_
        refine X_iconst (v := nI (5)) C (D (70, .iconst 5, 1) (mg 40 rfl)) (by decide) ?_
        refine X_bipush (v := nI (119)) C (D (71, .bipush 119, 2) (mg 41 rfl)) (by decide) ?_
        refine X_bipush (v := nI (101)) C (D (73, .bipush 101, 2) (mg 42 rfl)) (by decide) ?_
        refine X_bipush (v := nI (101)) C (D (75, .bipush 101, 2) (mg 43 rfl)) (by decide) ?_
        refine X_bipush (v := nI (107)) C (D (77, .bipush 107, 2) (mg 44 rfl)) (by decide) ?_
        refine X_bipush (v := nI (115)) C (D (79, .bipush 115, 2) (mg 45 rfl)) (by decide) ?_
        refine X_iconst (v := nI (0)) C (D (81, .iconst 0, 1) (mg 46 rfl)) (by decide) ?_
        refine X_cV (As := [.int (nI (5)), .int (nI (119)), .int (nI (101)), .int (nI (101)), .int (nI (107)), .int (nI (115)), .int (nI (0))]) (st := []) C (post := _) (m) (by omega) hsm rfl (cx_X8_spells hw hM (B := B) (n := n) (p := p) hn (by omega) (z0 := 5) (by omega) (nI (119)) (nI (101)) (nI (101)) (nI (107)) (nI (115)) (nI (0)) (i := 4) (by decide) rfl (by decide) h g (hb) hB ⟨(ht12), (ht13), (ht14), ht15⟩) kX8_277 (by decide) (by decide) rfl rfl (Nat.le_of_ble_eq_true rfl) (D (82, .invokevirtual 277, 3) (mg 47 rfl)) rfl (fun v18 H16 G17 hv18 => ?_)
        obtain ⟨⟨y19, rfl, h01y19, hiy19⟩, rfl, rfl⟩ := hv18
        show X k w _ 85 [some (.ref (wA w (m)))] [.int (y19)] h g
        refine X_if_eq (tgt := 99) C (D (85, .ifCond .eq 14, 3) (mg 48 rfl)) (by decide) (fun q20 => ?_) (fun q20 => ?_)
        · skip
          have hwy19 : ¬ isW B n (p) 4 := fun u_ => (hiy19).mpr u_ q20
          refine X_iconst (v := nI (0)) C (D (99, .iconst 0, 1) (mg 54 rfl)) (by decide) ?_
          exact X_zret C (D (100, .ireturn, 1) (mg 55 rfl)) rfl (have hr : pItM B n p z = (false, p, z) := (by unfold pItM; exact ((((if_neg (by assumption)).trans (if_neg (by assumption))).trans (if_neg (by assumption))).trans (if_neg (by assumption)))); pBr_f hr (xM_f hr (fun q i z1 z2 z3 => rfl) ⟨(ht12), (ht13), (ht14), ht15⟩ hao))
        · skip
          have hwy19 : isW B n (p) 4 := (hiy19).mp q20
          refine X_aload_n C 0 (D (88, .aload_n 0, 1) (mg 49 rfl)) rfl rfl ?_
          refine X_cV (As := []) (st := []) C (post := _) (m) (by omega) hsm rfl (cx_X8_takesWeeks hw hM (B := B) (n := n) (p := p) hn (by omega) (z := z) h g (hb) hB ⟨(ht12), (ht13), (ht14), ht15⟩ hrc hok hao (wB_k rfl (by omega) hwb) (isW_5 (by assumption))) kX8_291 (by decide) (by decide) rfl rfl (Nat.le_of_ble_eq_true rfl) (D (89, .invokevirtual 291, 3) (mg 50 rfl)) rfl (fun v23 H21 G22 hv23 => ?_)
          obtain ⟨y24, rfl, h01y24, hiy24, f26, ⟨ae25, be25, ce25, de25⟩, aoe25, rce25⟩ := hv23
          have hqe25 : (pWee B n (tE B n (p)) (z)).2.1 ≤ n := (pWee_le _ (tE_le (by omega))).2
          have hle25 : tE B n ((pWee B n (tE B n (p)) (z)).2.1) ≤ n := tE_le (by omega)
          have hse25 := tSE B n ((pWee B n (tE B n (p)) (z)).2.1)
          have hme25 := tT_le B n ((pWee B n (tE B n (p)) (z)).2.1)
          have hge25 := tE_ge B n ((pWee B n (tE B n (p)) (z)).2.1)
          obtain ⟨y0e25, y1e25, y2e25, cce25, hcce25, y28e25⟩ := id aoe25
          show X k w _ 92 [some (.ref (wA w (m)))] [.int (y24)] H21 G22
          refine X_if_eq (tgt := 99) C (D (92, .ifCond .eq 7, 3) (mg 51 rfl)) (by decide) (fun q27 => ?_) (fun q27 => ?_)
          · skip
            refine X_iconst (v := nI (0)) C (D (99, .iconst 0, 1) (mg 54 rfl)) (by decide) ?_
            exact X_zret C (D (100, .ireturn, 1) (mg 55 rfl)) rfl (have hr : pItM B n p z = pWee B n (tE B n (p)) (z) := (by unfold pItM; exact ((((if_neg (by assumption)).trans (if_neg (by assumption))).trans (if_neg (by assumption))).trans (if_pos (by assumption)))); by rw [hr]; exact ⟨_, rfl, Or.inl rfl, ⟨fun u_ => absurd rfl u_, fun u_ => absurd (by assumption) ((hiy24).mpr u_)⟩, ⟨f26, ⟨ae25, be25, ce25, de25⟩, aoe25, rce25⟩⟩)
          · skip
            obtain ⟨rre25, roe25, rwe25⟩ := rce25 ((hiy24).mp q27)
            refine X_iconst (v := nI (1)) C (D (95, .iconst 1, 1) (mg 52 rfl)) (by decide) ?_
            refine X_goto (tgt := 100) C (D (96, .goto 4, 3) (mg 53 rfl)) (by decide) ?_
            exact X_zret C (D (100, .ireturn, 1) (mg 55 rfl)) rfl (have hr : pItM B n p z = pWee B n (tE B n (p)) (z) := (by unfold pItM; exact ((((if_neg (by assumption)).trans (if_neg (by assumption))).trans (if_neg (by assumption))).trans (if_pos (by assumption)))); by rw [hr]; exact ⟨_, rfl, Or.inr rfl, ⟨fun _ => (hiy24).mp (by assumption), fun _ => by decide⟩, ⟨f26, ⟨ae25, be25, ce25, de25⟩, aoe25, rce25⟩⟩)
      · skip
        have hwy14 : isW B n (p) 3 := (hiy14).mp q15
        refine X_aload_n C 0 (D (64, .aload_n 0, 1) (mg 36 rfl)) rfl rfl ?_
        refine X_cV (As := []) (st := []) C (post := _) (m) (by omega) hsm rfl (cx_X8_takesDrag hw hM (B := B) (n := n) (p := p) hn (by omega) (z := z) h g (hb) hB ⟨(ht12), (ht13), (ht14), ht15⟩ hrc hok hao (wB_k rfl (by omega) hwb)) kX8_288 (by decide) (by decide) rfl rfl (Nat.le_of_ble_eq_true rfl) (D (65, .invokevirtual 288, 3) (mg 37 rfl)) rfl (fun v30 H28 G29 hv30 => ?_)
        obtain ⟨y31, rfl, h01y31, hiy31, f33, ⟨ae32, be32, ce32, de32⟩, aoe32, rce32⟩ := hv30
        have hqe32 : (pD3 B n (tE B n (p)) (z)).2.1 ≤ n := (pD3_le _ (tE_le (by omega))).2
        have hle32 : tE B n ((pD3 B n (tE B n (p)) (z)).2.1) ≤ n := tE_le (by omega)
        have hse32 := tSE B n ((pD3 B n (tE B n (p)) (z)).2.1)
        have hme32 := tT_le B n ((pD3 B n (tE B n (p)) (z)).2.1)
        have hge32 := tE_ge B n ((pD3 B n (tE B n (p)) (z)).2.1)
        obtain ⟨y0e32, y1e32, y2e32, cce32, hcce32, y28e32⟩ := id aoe32
        show X k w _ 68 [some (.ref (wA w (m)))] [.int (y31)] H28 G29
        exact X_zret C (D (68, .ireturn, 1) (mg 38 rfl)) (nb_01 h01y31) (have hr : pItM B n p z = pD3 B n (tE B n (p)) (z) := (by unfold pItM; exact (((if_neg (by assumption)).trans (if_neg (by assumption))).trans (if_pos (by assumption)))); by rw [hr]; exact ⟨_, rfl, h01y31, hiy31, ⟨f33, ⟨ae32, be32, ce32, de32⟩, aoe32, rce32⟩⟩)
    · skip
      have hwy9 : isW B n (p) 2 := (hiy9).mp q10
      refine X_aload_n C 0 (D (41, .aload_n 0, 1) (mg 23 rfl)) rfl rfl ?_
      refine X_cV (As := []) (st := []) C (post := _) (m) (by omega) hsm rfl (cx_X8_takesSaying hw hM (B := B) (n := n) (p := p) hn (by omega) (z := z) h g (hb) hB ⟨(ht12), (ht13), (ht14), ht15⟩ hrc hok hao (wB_k rfl (by omega) hwb)) kX8_285 (by decide) (by decide) rfl rfl (Nat.le_of_ble_eq_true rfl) (D (42, .invokevirtual 285, 3) (mg 24 rfl)) rfl (fun v36 H34 G35 hv36 => ?_)
      obtain ⟨y37, rfl, h01y37, hiy37, f39, ⟨ae38, be38, ce38, de38⟩, aoe38, rce38⟩ := hv36
      have hqe38 : (pSay B n (tE B n (p)) (z)).2.1 ≤ n := (pSay_le _ (tE_le (by omega))).2
      have hle38 : tE B n ((pSay B n (tE B n (p)) (z)).2.1) ≤ n := tE_le (by omega)
      have hse38 := tSE B n ((pSay B n (tE B n (p)) (z)).2.1)
      have hme38 := tT_le B n ((pSay B n (tE B n (p)) (z)).2.1)
      have hge38 := tE_ge B n ((pSay B n (tE B n (p)) (z)).2.1)
      obtain ⟨y0e38, y1e38, y2e38, cce38, hcce38, y28e38⟩ := id aoe38
      show X k w _ 45 [some (.ref (wA w (m)))] [.int (y37)] H34 G35
      exact X_zret C (D (45, .ireturn, 1) (mg 25 rfl)) (nb_01 h01y37) (have hr : pItM B n p z = pSay B n (tE B n (p)) (z) := (by unfold pItM; exact ((if_neg (by assumption)).trans (if_pos (by assumption)))); by rw [hr]; exact ⟨_, rfl, h01y37, hiy37, ⟨f39, ⟨ae38, be38, ce38, de38⟩, aoe38, rce38⟩⟩)
  · skip
    have hwy4 : isW B n (p) 1 := (hiy4).mp q5
    refine X_aload_n C 0 (D (19, .aload_n 0, 1) (mg 10 rfl)) rfl rfl ?_
    refine X_cV (As := []) (st := []) C (post := _) (m) (by omega) hsm rfl (cx_X8_takesStony hw hM (B := B) (n := n) (p := p) hn (by omega) (z := z) h g (hb) hB ⟨(ht12), (ht13), (ht14), ht15⟩ hrc hok hao (wB_k rfl (by omega) hwb)) kX8_281 (by decide) (by decide) rfl rfl (Nat.le_of_ble_eq_true rfl) (D (20, .invokevirtual 281, 3) (mg 11 rfl)) rfl (fun v42 H40 G41 hv42 => ?_)
    obtain ⟨y43, rfl, h01y43, hiy43, f45, ⟨ae44, be44, ce44, de44⟩, aoe44, rce44⟩ := hv42
    have hqe44 : (pSto B n (tE B n (p)) (z)).2.1 ≤ n := (pSto_le _ (tE_le (by omega))).2
    have hle44 : tE B n ((pSto B n (tE B n (p)) (z)).2.1) ≤ n := tE_le (by omega)
    have hse44 := tSE B n ((pSto B n (tE B n (p)) (z)).2.1)
    have hme44 := tT_le B n ((pSto B n (tE B n (p)) (z)).2.1)
    have hge44 := tE_ge B n ((pSto B n (tE B n (p)) (z)).2.1)
    obtain ⟨y0e44, y1e44, y2e44, cce44, hcce44, y28e44⟩ := id aoe44
    show X k w _ 23 [some (.ref (wA w (m)))] [.int (y43)] H40 G41
    exact X_zret C (D (23, .ireturn, 1) (mg 12 rfl)) (nb_01 h01y43) (have hr : pItM B n p z = pSto B n (tE B n (p)) (z) := (by unfold pItM; exact (if_pos (by assumption))); by rw [hr]; exact ⟨_, rfl, h01y43, hiy43, ⟨f45, ⟨ae44, be44, ce44, de44⟩, aoe44, rce44⟩⟩)
theorem pA_f {B : Nat → Int32} {n P : Nat} {z : nS} (e : pFst B n 0 = (false, P, z)) : pAll B n = (false, tS B n P, nBeg 0 0) := by
  unfold pAll; rw [e]; exact if_neg (fun u_ => by cases u_)
theorem pA_t {B : Nat → Int32} {n P : Nat} {z : nS} (e : pFst B n 0 = (true, P, z)) : pRd B n (n + 1) 1 P z = pAll B n := by
  unfold pAll; rw [e]; exact (if_pos rfl).symm
def rQ (B : Nat → Int32) (n it p : Nat) (z : nS) : Prop := ∃ f, n < f + p ∧ pRd B n f it p z = pAll B n
theorem rQ_s {B : Nat → Int32} {n it p P : Nat} {z z' : nS} (H : rQ B n it p z) (hp : p ≤ n) (q0 : ¬ tT B n p = 0) (e : pCl B n (pItm B n p z) = (true, P, z')) : rQ B n (it + 1) P z' := by
  obtain ⟨f, hf, h⟩ := H
  have q : (pCl B n (pItm B n p z)).1 = true := by rw [e]
  have g := pCl_gt (pItm_le z hp) q
  match f, hf, h with
  | 0, hf, h => omega
  | f + 1, hf, h =>
    rw [pRd_s q0 q, e] at h
    rw [e] at g
    have g1 : p < P := g.1
    exact ⟨f, by omega, h⟩
theorem rQ_f {B : Nat → Int32} {n it p P : Nat} {z z' : nS} (H : rQ B n it p z) (hp : p ≤ n) (q0 : ¬ tT B n p = 0) (e : pCl B n (pItm B n p z) = (false, P, z')) : pAll B n = (false, tS B n P, z) := by
  obtain ⟨f, hf, h⟩ := H
  match f, hf, h with
  | 0, hf, h => omega
  | f + 1, hf, h => rw [← h, pRd_f q0 (by rw [e]; exact fun u_ => by cases u_), e]
theorem rQ_e {B : Nat → Int32} {n it p : Nat} {z : nS} (H : rQ B n it p z) (hp : p ≤ n) (q0 : tT B n p = 0) : pAll B n = (true, it, z) := by
  obtain ⟨f, hf, h⟩ := H
  match f, hf, h with
  | 0, hf, h => omega
  | f + 1, hf, h => rw [← h, pRd_e q0]
def xQ (r : rT) (m : Nat) (h h' : xI) : Prop := fR m h h' ∧ mOk h' m ∧ (r.1 = true → rM h' (m + 1) r.2.2 ∧ nOk r.2.2 ∧ h' (m + 1) 0 = nI 0 ∧ h' (m + 1) 1 = nI 0) ∧ (¬ r.1 = true → ∀ i, h' (m + 1) i = h (m + 1) i)
theorem xQ_f {r : rT} {m k : Nat} {z : nS} {h h' : xI} (hI : mOk h m) (e : r = (false, k, z)) (f : fI m h h') : xQ r m h h' := by
  obtain ⟨a, b⟩ := rr_a hI f
  subst e
  exact ⟨a, b, fun u_ => (by cases u_), fun _ i => f _ _ (by omega) (by omega) (by omega)⟩
theorem xQ_t {r : rT} {m k : Nat} {z : nS} {h h' : xI} (hI : mOk h m) (e : r = (true, k, z)) (f : fI m h h') (ao : aOk h' m) (c : rM h' (m + 10) z) (o : nOk z) : xQ r m h (cpS h' (m + 10) 0 (m + 1) 0 94) := by
  obtain ⟨a, b⟩ := rr_b hI f ao
  obtain ⟨a0, a1, -⟩ := ao
  have at_ : ∀ i, i < 94 → cpS h' (m + 10) 0 (m + 1) 0 94 (m + 1) i = h' (m + 10) i := fun i hi => by
    rw [cpS_at _ _ _ _ _ _ ⟨rfl, by omega, by omega⟩]; congr 1
  subst e
  obtain ⟨c1, c2, c3, c4⟩ := c
  refine ⟨a, b, fun _ => ⟨⟨?_, ?_, fun i hi => ?_, fun i hi => ?_⟩, o, ?_, ?_⟩, fun u_ => absurd rfl u_⟩
  · rw [at_ _ (by omega)]; exact c1
  · rw [at_ _ (by omega)]; exact c2
  · rw [at_ _ (by omega)]; exact c3 i hi
  · rw [at_ _ (by omega)]; exact c4 i hi
  · rw [at_ _ (by omega)]; exact a0
  · rw [at_ _ (by omega)]; exact a1
set_option maxHeartbeats 4000000 in
set_option maxRecDepth 100000 in
theorem cx_X8_read {l : Launch} {w : Kw} (hw : wOk w) {m : Nat} (hM : shM w m) {B : Nat → Int32} {n : Nat} (hn : n ≤ 150) (h : xI) (g : xJ) (hb : h m 11 = nI n) (hB : ∀ i, i < n → h (m + 9) i = B i) (hI : mOk h m) : Ct l w yX8_read cX8_read 3 (some .int) 7 152 [.ref (wA w (m))] h g (pR (rA (pAll B n)) (xQ (pAll B n) m h)) := by
  refine Ct_of (ls := [some (.ref (wA w (m))), none, none]) (by decide) hw (Nat.le_of_ble_eq_true rfl) rfl (fun k hkl C => ?_)
  have C : Cx k w cX8_read RX8 3 (some .int) 7 152 := C
  have D := dtX8_read
  subst hkl
  have hM0 := hM
  obtain ⟨hm, hsm, hs1, hs2, hs3, hs4, hs5, hs6, hs7, hs8, hs9, hs10, hs11⟩ := hM
  have hM := hM0
  refine X_aload_n C 0 (D (0, .aload_n 0, 1) (mg 0 rfl)) rfl rfl ?_
  refine X_iconst (v := nI (0)) C (D (1, .iconst 0, 1) (mg 1 rfl)) (by decide) ?_
  refine X_cV (As := [.int (nI (0))]) (st := []) C (post := _) (m) (by omega) hsm rfl (cx_X8_lookAt hw hM (B := B) (n := n) (f0 := 0) hn (by omega) h g (hb) hB) kX8_268 (by decide) (by decide) rfl rfl (Nat.le_of_ble_eq_true rfl) (D (2, .invokevirtual 268, 3) (mg 2 rfl)) rfl (fun v3 H1 G2 hv3 => ?_)
  obtain ⟨rfl, f4, ae5, be5, ce5, de5⟩ := hv3
  have hpe5 : 0 ≤ n := by omega
  have hle5 : tE B n (0) ≤ n := tE_le (by omega)
  have hse5 := tSE B n (0)
  have hme5 := tT_le B n (0)
  have hge5 := tE_ge B n (0)
  show X k w _ 5 [some (.ref (wA w (m))), none, none] [] H1 G2
  refine X_aload_n C 0 (D (5, .aload_n 0, 1) (mg 3 rfl)) rfl rfl ?_
  refine X_iconst (v := nI (4)) C (D (6, .iconst 4, 1) (mg 4 rfl)) (by decide) ?_
  refine X_bipush (v := nI (110)) C (D (7, .bipush 110, 2) (mg 5 rfl)) (by decide) ?_
  refine X_bipush (v := nI (97)) C (D (9, .bipush 97, 2) (mg 6 rfl)) (by decide) ?_
  refine X_bipush (v := nI (118)) C (D (11, .bipush 118, 2) (mg 7 rfl)) (by decide) ?_
  refine X_bipush (v := nI (101)) C (D (13, .bipush 101, 2) (mg 8 rfl)) (by decide) ?_
  refine X_iconst (v := nI (0)) C (D (15, .iconst 0, 1) (mg 9 rfl)) (by decide) ?_
  refine X_iconst (v := nI (0)) C (D (16, .iconst 0, 1) (mg 10 rfl)) (by decide) ?_
  refine X_cV (As := [.int (nI (4)), .int (nI (110)), .int (nI (97)), .int (nI (118)), .int (nI (101)), .int (nI (0)), .int (nI (0))]) (st := []) C (post := _) (m) (by omega) hsm rfl (cx_X8_spells hw hM (B := B) (n := n) (p := 0) hn (by omega) (z0 := 4) (by omega) (nI (110)) (nI (97)) (nI (118)) (nI (101)) (nI (0)) (nI (0)) (i := 0) (by decide) rfl (by decide) H1 G2 (((f4 _ _ (by omega))).trans hb) (fun i hi => by rw [f4 _ _ (by omega)]; exact hB i hi) ⟨(ae5), (be5), (ce5), de5⟩) kX8_277 (by decide) (by decide) rfl rfl (Nat.le_of_ble_eq_true rfl) (D (17, .invokevirtual 277, 3) (mg 11 rfl)) rfl (fun v8 H6 G7 hv8 => ?_)
  obtain ⟨⟨y9, rfl, h01y9, hiy9⟩, rfl, rfl⟩ := hv8
  show X k w _ 20 [some (.ref (wA w (m))), none, none] [.int (y9)] H1 G2
  refine X_if_ne (tgt := 31) C (D (20, .ifCond .ne 11, 3) (mg 12 rfl)) (by decide) (fun q10 => ?_) (fun q10 => ?_)
  · skip
    have hwy9 : isW B n (0) 0 := (hiy9).mp q10
    have hw0_ : isW B n (0) 0 := by assumption
    refine X_aload_n C 0 (D (31, .aload_n 0, 1) (mg 18 rfl)) rfl rfl ?_
    refine X_cV (As := []) (st := []) C (post := _) (m) (by omega) hsm rfl (cx_X8_goBehind hw hM (B := B) (n := n) (p := 0) hn (by omega) H1 G2 (((f4 _ _ (by omega))).trans hb) (fun i hi => by rw [f4 _ _ (by omega)]; exact hB i hi) ⟨(ae5), (be5), (ce5), de5⟩) kX8_271 (by decide) (by decide) rfl rfl (Nat.le_of_ble_eq_true rfl) (D (32, .invokevirtual 271, 3) (mg 19 rfl)) rfl (fun v13 H11 G12 hv13 => ?_)
    obtain ⟨rfl, f14, ae15, be15, ce15, de15⟩ := hv13
    have hpe15 : tE B n (0) ≤ n := by omega
    have hle15 : tE B n (tE B n (0)) ≤ n := tE_le (by omega)
    have hse15 := tSE B n (tE B n (0))
    have hme15 := tT_le B n (tE B n (0))
    have hge15 := tE_ge B n (tE B n (0))
    show X k w _ 35 [some (.ref (wA w (m))), none, none] [] H11 G12
    refine X_aload_n C 0 (D (35, .aload_n 0, 1) (mg 20 rfl)) rfl rfl ?_
    refine X_iconst (v := nI (0)) C (D (36, .iconst 0, 1) (mg 21 rfl)) (by decide) ?_
    refine X_iconst (v := nI (0)) C (D (37, .iconst 0, 1) (mg 22 rfl)) (by decide) ?_
    refine X_iconst (v := nI (5)) C (D (38, .iconst 5, 1) (mg 23 rfl)) (by decide) ?_
    refine X_cV (As := [.int (nI (0)), .int (nI (0)), .int (nI (5))]) (st := []) C (post := _) (m) (by omega) hsm rfl (cx_X8_takes hw hM (B := B) (n := n) (p := tE B n (0)) hn (by omega) (K := 0) (A := 0) (Cm := 5) (by decide) (by decide) H11 G12 ((((f14 _ _ (by omega))).trans (f4 _ _ (by omega))).trans hb) (fun i hi => by rw [f14 _ _ (by omega), f4 _ _ (by omega)]; exact hB i hi) ⟨(ae15), (be15), (ce15), de15⟩) kX8_274 (by decide) (by decide) rfl rfl (Nat.le_of_ble_eq_true rfl) (D (39, .invokevirtual 274, 3) (mg 24 rfl)) rfl (fun v18 H16 G17 hv18 => ?_)
    obtain ⟨y19, rfl, h01y19, hiy19, f20, hky19, hzy19⟩ := hv18
    show X k w _ 42 [some (.ref (wA w (m))), none, none] [.int (y19)] H16 G17
    refine X_if_eq (tgt := 64) C (D (42, .ifCond .eq 22, 3) (mg 25 rfl)) (by decide) (fun q22 => ?_) (fun q22 => ?_)
    · skip
      have hNy19 : ¬ isN B n (tE B n (0)) (0) (5) := fun u_ => (hiy19).mpr u_ q22
      have hhy19 : H16 = H11 := hzy19 q22
      rw [hhy19]
      refine X_bipush (v := (-10 : Int32)) C (D (64, .bipush (-10), 2) (mg 36 rfl)) (by decide) ?_
      refine X_aload_n C 0 (D (66, .aload_n 0, 1) (mg 37 rfl)) rfl rfl ?_
      refine X_get (v := .int (H11 (m) 12)) C (m) 12 (by omega) hsm rfl rfl (by decide) inX8 fX8_250 rfl (D (67, .getfield 250, 3) (mg 38 rfl)) rfl ?_
      refine X_ti (y := nI (tS B n (tE B n (0)))) (ae15) ?_
      refine X_isub C (D (70, .isub, 1) (mg 39 rfl)) ?_
      exact X_iret C (D (71, .ireturn, 1) (mg 40 rfl)) (have hr := pA_f (P := tE B n (0)) (z := nBeg 0 0) ((pFs1 hw0_.1 hw0_.2).trans (pC_f (by unfold pNav; exact if_neg (by assumption)))); ⟨by rw [rA_f hr], xQ_f hI hr (fun q i z1 z2 z3 => by rw [f14 _ _ (by omega), f4 _ _ (by omega)])⟩)
    · skip
      have hNv23 : isN B n (tE B n (0)) (0) (5) := (hiy19).mp q22
      obtain ⟨hlv23, huv23, -⟩ := isN_v hNv23
      obtain ⟨⟨ae21, be21, ce21, de21⟩, evv23⟩ := hky19 q22
      have hle21 : tE B n (tE B n (tE B n (0))) ≤ n := tE_le (by omega)
      have hse21 := tSE B n (tE B n (tE B n (0)))
      have hme21 := tT_le B n (tE B n (tE B n (0)))
      have hge21 := tE_ge B n (tE B n (tE B n (0)))
      refine X_aload_n C 0 (D (45, .aload_n 0, 1) (mg 26 rfl)) rfl rfl ?_
      refine X_iconst (v := nI (1)) C (D (46, .iconst 1, 1) (mg 27 rfl)) (by decide) ?_
      refine X_iconst (v := nI (0)) C (D (47, .iconst 0, 1) (mg 28 rfl)) (by decide) ?_
      refine X_bipush (v := nI (24)) C (D (48, .bipush 24, 2) (mg 29 rfl)) (by decide) ?_
      refine X_cV (As := [.int (nI (1)), .int (nI (0)), .int (nI (24))]) (st := []) C (post := _) (m) (by omega) hsm rfl (cx_X8_takes hw hM (B := B) (n := n) (p := tE B n (tE B n (0))) hn (by omega) (K := 1) (A := 0) (Cm := 24) (by decide) (by decide) H16 G17 (((((f20 _ _ (by omega) (by omega))).trans (f14 _ _ (by omega))).trans (f4 _ _ (by omega))).trans hb) (fun i hi => by rw [f20 _ _ (by omega) (by omega), f14 _ _ (by omega), f4 _ _ (by omega)]; exact hB i hi) ⟨(ae21), (be21), (ce21), de21⟩) kX8_274 (by decide) (by decide) rfl rfl (Nat.le_of_ble_eq_true rfl) (D (50, .invokevirtual 274, 3) (mg 30 rfl)) rfl (fun v26 H24 G25 hv26 => ?_)
      obtain ⟨y27, rfl, h01y27, hiy27, f28, hky27, hzy27⟩ := hv26
      show X k w _ 53 [some (.ref (wA w (m))), none, none] [.int (y27)] H24 G25
      refine X_if_eq (tgt := 64) C (D (53, .ifCond .eq 11, 3) (mg 31 rfl)) (by decide) (fun q30 => ?_) (fun q30 => ?_)
      · skip
        have hNy27 : ¬ isN B n (tE B n (tE B n (0))) (0) (24) := fun u_ => (hiy27).mpr u_ q30
        have hhy27 : H24 = H16 := hzy27 q30
        rw [hhy27]
        refine X_bipush (v := (-10 : Int32)) C (D (64, .bipush (-10), 2) (mg 36 rfl)) (by decide) ?_
        refine X_aload_n C 0 (D (66, .aload_n 0, 1) (mg 37 rfl)) rfl rfl ?_
        refine X_get (v := .int (H16 (m) 12)) C (m) 12 (by omega) hsm rfl rfl (by decide) inX8 fX8_250 rfl (D (67, .getfield 250, 3) (mg 38 rfl)) rfl ?_
        refine X_ti (y := nI (tS B n (tE B n (tE B n (0))))) (ae21) ?_
        refine X_isub C (D (70, .isub, 1) (mg 39 rfl)) ?_
        exact X_iret C (D (71, .ireturn, 1) (mg 40 rfl)) (have hr := pA_f (P := tE B n (tE B n (0))) (z := nBeg 0 0) ((pFs1 hw0_.1 hw0_.2).trans (pC_f (by unfold pNav; exact ((if_pos (by assumption)).trans (if_neg (by assumption)))))); ⟨by rw [rA_f hr], xQ_f hI hr (fun q i z1 z2 z3 => by rw [f20 _ _ (by omega) (by omega), f14 _ _ (by omega), f4 _ _ (by omega)])⟩)
      · skip
        have hNv31 : isN B n (tE B n (tE B n (0))) (0) (24) := (hiy27).mp q30
        obtain ⟨hlv31, huv31, -⟩ := isN_v hNv31
        obtain ⟨⟨ae29, be29, ce29, de29⟩, evv31⟩ := hky27 q30
        have hle29 : tE B n (tE B n (tE B n (tE B n (0)))) ≤ n := tE_le (by omega)
        have hse29 := tSE B n (tE B n (tE B n (tE B n (0))))
        have hme29 := tT_le B n (tE B n (tE B n (tE B n (0))))
        have hge29 := tE_ge B n (tE B n (tE B n (tE B n (0))))
        refine X_aload_n C 0 (D (56, .aload_n 0, 1) (mg 32 rfl)) rfl rfl ?_
        refine X_get (v := .int (H24 (m) 14)) C (m) 14 (by omega) hsm rfl rfl (by decide) inX8 fX8_256 rfl (D (57, .getfield 256, 3) (mg 33 rfl)) rfl ?_
        refine X_ti (y := nI (tT B n (tE B n (tE B n (tE B n (0)))))) (ce29) ?_
        refine X_iconst (v := nI (3)) C (D (60, .iconst 3, 1) (mg 34 rfl)) (by decide) ?_
        refine X_icmp_eq (tgt := 72) C (D (61, .if_icmp .eq 11, 3) (mg 35 rfl)) (by decide) (fun q32 => ?_) (fun q32 => ?_)
        · skip
          have q32 : (tT B n (tE B n (tE B n (tE B n (0))))) = (3) := by have z := (nI_eq (a := (tT B n (tE B n (tE B n (tE B n (0)))))) (b := (3)) (by omega) (by omega)).mp q32; omega
          have he_ : pFst B n 0 = (true, tE B n (tE B n (tE B n (tE B n (0)))), nBeg (nV B n (tE B n (0))) (nV B n (tE B n (tE B n (0))))) := (pFs1 hw0_.1 hw0_.2).trans (pC_t (r' := (true, tE B n (tE B n (tE B n (0))), nBeg (nV B n (tE B n (0))) (nV B n (tE B n (tE B n (0)))))) (by unfold pNav; exact ((if_pos (by assumption)).trans (if_pos (by assumption)))) rfl (by show tT B n (tE B n (tE B n (tE B n (0)))) = 3; omega))
          have hgt_ := tE_gt2 (B := B) (n := n) (p := tE B n (tE B n (tE B n (0)))) (by omega)
          refine X_aload_n C 0 (D (72, .aload_n 0, 1) (mg 41 rfl)) rfl rfl ?_
          refine X_cV (As := []) (st := []) C (post := _) (m) (by omega) hsm rfl (cx_X8_goBehind hw hM (B := B) (n := n) (p := tE B n (tE B n (tE B n (0)))) hn (by omega) H24 G25 ((((((f28 _ _ (by omega) (by omega))).trans (f20 _ _ (by omega) (by omega))).trans (f14 _ _ (by omega))).trans (f4 _ _ (by omega))).trans hb) (fun i hi => by rw [f28 _ _ (by omega) (by omega), f20 _ _ (by omega) (by omega), f14 _ _ (by omega), f4 _ _ (by omega)]; exact hB i hi) ⟨(ae29), (be29), (ce29), de29⟩) kX8_271 (by decide) (by decide) rfl rfl (Nat.le_of_ble_eq_true rfl) (D (73, .invokevirtual 271, 3) (mg 42 rfl)) rfl (fun v35 H33 G34 hv35 => ?_)
          obtain ⟨rfl, f36, ae37, be37, ce37, de37⟩ := hv35
          have hpe37 : tE B n (tE B n (tE B n (tE B n (0)))) ≤ n := by omega
          have hle37 : tE B n (tE B n (tE B n (tE B n (tE B n (0))))) ≤ n := tE_le (by omega)
          have hse37 := tSE B n (tE B n (tE B n (tE B n (tE B n (0)))))
          have hme37 := tT_le B n (tE B n (tE B n (tE B n (tE B n (0)))))
          have hge37 := tE_ge B n (tE B n (tE B n (tE B n (tE B n (0)))))
          show X k w _ 76 [some (.ref (wA w (m))), none, none] [] H33 G34
          refine X_aload_n C 0 (D (76, .aload_n 0, 1) (mg 43 rfl)) rfl rfl ?_
          refine X_get (v := .ref (wA w (m + 10))) C (m) 16 (by omega) hsm rfl rfl (by decide) inX8 fX8_42 rfl (D (77, .getfield 42, 3) (mg 44 rfl)) rfl ?_
          refine X_aload_n C 0 (D (80, .aload_n 0, 1) (mg 45 rfl)) rfl rfl ?_
          refine X_get (v := .ref (wA w (m + 11))) C (m) 17 (by omega) hsm rfl rfl (by decide) inX8 fX8_45 rfl (D (81, .getfield 45, 3) (mg 46 rfl)) rfl ?_
          refine X_iconst (v := nI (0)) C (D (84, .iconst 0, 1) (mg 47 rfl)) (by decide) ?_
          refine X_iald (v := H33 (m + 11) (0)) C (m + 11) (by omega) hs11 (vp_in_nI (by omega) (by omega)) (D (85, .iaload, 1) (mg 48 rfl)) (by rw [nI_clamp (by omega)]) ?_
          refine X_ti (y := nI (nV B n (tE B n (0)))) ((((f36 _ _ (by omega))).trans (f28 _ _ (by omega) (by omega))).trans evv23) ?_
          refine X_aload_n C 0 (D (86, .aload_n 0, 1) (mg 49 rfl)) rfl rfl ?_
          refine X_get (v := .ref (wA w (m + 11))) C (m) 17 (by omega) hsm rfl rfl (by decide) inX8 fX8_45 rfl (D (87, .getfield 45, 3) (mg 50 rfl)) rfl ?_
          refine X_iconst (v := nI (1)) C (D (90, .iconst 1, 1) (mg 51 rfl)) (by decide) ?_
          refine X_iald (v := H33 (m + 11) (1)) C (m + 11) (by omega) hs11 (vp_in_nI (by omega) (by omega)) (D (91, .iaload, 1) (mg 52 rfl)) (by rw [nI_clamp (by omega)]) ?_
          refine X_ti (y := nI (nV B n (tE B n (tE B n (0))))) (((f36 _ _ (by omega))).trans evv31) ?_
          refine X_cS (As := [.ref (wA w (m + 10)), .int (nI (nV B n (tE B n (0)))), .int (nI (nV B n (tE B n (tE B n (0)))))]) (st := []) C (post := _) (ct_X8_begin hw (⟨by omega, hs10, by omega, by omega⟩ : rw94 w (m + 10) 94) (nI (nV B n (tE B n (0)))) (nI (nV B n (tE B n (tE B n (0))))) H33 G34) kX8_48 (by decide) (by decide) rfl rfl (Nat.le_of_ble_eq_true rfl) (D (92, .invokestatic 48, 3) (mg 53 rfl)) rfl (fun v40 H38 G39 hv40 => ?_)
          obtain ⟨rfl, rfl, rfl⟩ := hv40
          show X k w _ 95 [some (.ref (wA w (m))), none, none] [] (bgH H33 (m + 10) (nI (nV B n (tE B n (0)))) (nI (nV B n (tE B n (tE B n (0)))))) G34
          refine X_iconst (v := nI (1)) C (D (95, .iconst 1, 1) (mg 54 rfl)) (by decide) ?_
          refine X_istore_n (ls' := [some (.ref (wA w (m))), some (.int (nI (1))), none]) C 1 (D (96, .istore_n 1, 1) (mg 55 rfl)) rfl (Nat.le_of_ble_eq_true rfl) rfl ?_
          have lp97 : ∀ (nn97 : Nat) (p1 : Nat) (z1 : nS) (it : Nat) (hp97 : xI) (gp97 : xJ), (p1 ≤ n) → (fI m h hp97) → (kM B n p1 m hp97) → (rM hp97 (m + 10) z1) → (nOk z1) → (aOk hp97 m) → (wB hp97 (m + 10) p1) → (rQ B n it p1 z1) → n + 1 - p1 ≤ nn97 → X k w (Zq k w (pR (rA (pAll B n)) (xQ (pAll B n) m h))) 97 [some (.ref (wA w (m))), some (.int (nI (it))), none] [] hp97 gp97 := by
            intro nn97
            induction nn97 with
            | zero => intro p1 z1 it hp97 gp97 hc97_0 hc97_1 hc97_2 hc97_3 hc97_4 hc97_5 hc97_6 hc97_7 hz; exact absurd hz (by omega)
            | succ nn97 ih97 =>
              intro p1 z1 it hp97 gp97 hc97_0 hc97_1 hc97_2 hc97_3 hc97_4 hc97_5 hc97_6 hc97_7 hz97
              obtain ⟨ae41, be41, ce41, de41⟩ := hc97_2
              have hle41 : tE B n (p1) ≤ n := tE_le (by omega)
              have hse41 := tSE B n (p1)
              have hme41 := tT_le B n (p1)
              have hge41 := tE_ge B n (p1)
              have hxe41 := tE_ge B n (p1)
              obtain ⟨z0e41, z1e41, z2e41, -⟩ := id hc97_5
              have hae41 := (hc97_4).2.1
              refine X_aload_n C 0 (D (97, .aload_n 0, 1) (mg 56 rfl)) rfl rfl ?_
              refine X_get (v := .int (hp97 (m) 14)) C (m) 14 (by omega) hsm rfl rfl (by decide) inX8 fX8_256 rfl (D (98, .getfield 256, 3) (mg 57 rfl)) rfl ?_
              refine X_ti (y := nI (tT B n (p1))) (ce41) ?_
              refine X_if_eq (tgt := 137) C (D (101, .ifCond .eq 36, 3) (mg 58 rfl)) (by decide) (fun q42 => ?_) (fun q42 => ?_)
              · skip
                have q42 : (tT B n (p1)) = (0) := by have z := (nI_eq (a := (tT B n (p1))) (b := (0)) (by omega) (by omega)).mp q42; omega
                refine X_iconst (v := nI (0)) C (D (137, .iconst 0, 1) (mg 75 rfl)) (by decide) ?_
                refine X_istore_n (ls' := [some (.ref (wA w (m))), some (.int (nI (it))), some (.int (nI (0)))]) C 2 (D (138, .istore_n 2, 1) (mg 76 rfl)) rfl (Nat.le_of_ble_eq_true rfl) rfl ?_
                have lp139 : ∀ (nn139 : Nat) (j : Nat), (j ≤ 94) → 95 - j ≤ nn139 → X k w (Zq k w (pR (rA (pAll B n)) (xQ (pAll B n) m h))) 139 [some (.ref (wA w (m))), some (.int (nI (it))), some (.int (nI (j)))] [] (cpS hp97 (m + 10) 0 (m + 1) 0 (j)) gp97 := by
                  intro nn139
                  induction nn139 with
                  | zero => intro j hc139_0 hz; exact absurd hz (by omega)
                  | succ nn139 ih139 =>
                    intro j hc139_0 hz139
                    refine X_iload_n C 2 (D (139, .iload_n 2, 1) (mg 77 rfl)) rfl rfl ?_
                    refine X_bipush (v := nI (94)) C (D (140, .bipush 94, 2) (mg 78 rfl)) (by decide) ?_
                    refine X_icmp_ge (tgt := 163) C (D (142, .if_icmp .ge 21, 3) (mg 79 rfl)) (by decide) (fun q43 => ?_) (fun q43 => ?_)
                    · skip
                      have q43 : (j) ≥ (94) := by have z := (nI_leI (a := (94)) (b := (j)) (by omega) (by omega)).mp q43; omega
                      refine X_iload_n C 1 (D (163, .iload_n 1, 1) (mg 90 rfl)) rfl rfl ?_
                      exact X_iret C (D (164, .ireturn, 1) (mg 91 rfl)) (have hr := rQ_e hc97_7 (by omega) (by omega); ⟨by rw [rA_t hr], by rw [show j = 94 by omega]; exact xQ_t hI hr hc97_1 hc97_5 hc97_3 hc97_4⟩)
                    · skip
                      have q43 : (j) < (94) := by have z : ¬ ((94) ≤ (j)) := fun u => q43 ((nI_leI (a := (94)) (b := (j)) (by omega) (by omega)).mpr u); omega
                      refine X_aload_n C 0 (D (145, .aload_n 0, 1) (mg 80 rfl)) rfl rfl ?_
                      refine X_get (v := .ref (wA w (m + 1))) C (m) 0 (by omega) hsm rfl rfl (by decide) inX8 fX8_7 rfl (D (146, .getfield 7, 3) (mg 81 rfl)) rfl ?_
                      refine X_iload_n C 2 (D (149, .iload_n 2, 1) (mg 82 rfl)) rfl rfl ?_
                      refine X_aload_n C 0 (D (150, .aload_n 0, 1) (mg 83 rfl)) rfl rfl ?_
                      refine X_get (v := .ref (wA w (m + 10))) C (m) 16 (by omega) hsm rfl rfl (by decide) inX8 fX8_42 rfl (D (151, .getfield 42, 3) (mg 84 rfl)) rfl ?_
                      refine X_iload_n C 2 (D (154, .iload_n 2, 1) (mg 85 rfl)) rfl rfl ?_
                      refine X_iald (v := (cpS hp97 (m + 10) 0 (m + 1) 0 (j)) (m + 10) (j)) C (m + 10) (by omega) hs10 (vp_in_nI (by omega) (by omega)) (D (155, .iaload, 1) (mg 86 rfl)) (by rw [nI_clamp (by omega)]) ?_
                      refine X_iast (j := j) C (m + 1) (by omega) hs1 (vp_in_nI (by omega) (by omega)) (D (156, .iastore, 1) (mg 87 rfl)) (nI_clamp (by omega)) ?_
                      refine X_iinc (v := nI (j + 1)) (ls' := [some (.ref (wA w (m))), some (.int (nI (it))), some (.int (nI (j + 1)))]) C (D (157, .iinc 2 1, 3) (mg 88 rfl)) rfl (nI_add (j) 1) rfl ?_
                      refine X_goto (tgt := 139) C (D (160, .goto (-21), 3) (mg 89 rfl)) (by decide) ?_
                      refine X_eq (ls' := [some (.ref (wA w (m))), some (.int (nI (it))), some (.int (nI (j + 1)))]) (st' := []) (h' := (cpS hp97 (m + 10) 0 (m + 1) 0 (j + 1))) (g' := gp97) rfl rfl (by have z := cpS_s hp97 (m + 10) 0 (m + 1) 0 (j) (v := cpS hp97 (m + 10) 0 (m + 1) 0 (j) (m + 10) (j)) (by rw [Nat.zero_add]; exact (cpS_n hp97 (m + 10) 0 (m + 1) 0 (j) _ (by omega)).symm); rw [Nat.zero_add] at z; exact z) rfl ?_
                      exact ih139 (j + 1) (by omega) (by omega)
                refine X_eq (ls' := [some (.ref (wA w (m))), some (.int (nI (it))), some (.int (nI (0)))]) (st' := []) (h' := (cpS hp97 (m + 10) 0 (m + 1) 0 (0))) (g' := gp97) rfl rfl (cpS_0 hp97 (m + 10) 0 (m + 1) 0).symm rfl ?_
                exact lp139 _ (0) (by omega) (Nat.le_refl _)
              · skip
                have q42 : (tT B n (p1)) ≠ (0) := by have z : ¬ ((tT B n (p1)) = (0)) := fun u => q42 ((nI_eq (a := (tT B n (p1))) (b := (0)) (by omega) (by omega)).mpr u); omega
                have htn0 : ¬ tT B n p1 = 0 := by omega
                refine X_aload_n C 0 (D (104, .aload_n 0, 1) (mg 59 rfl)) rfl rfl ?_
                refine X_cV (As := []) (st := []) C (post := _) (m) (by omega) hsm rfl (cx_X8_takesItem hw hM (B := B) (n := n) (p := p1) hn (by omega) (z := z1) hp97 gp97 (((hc97_1 _ _ (by omega) (by omega) (by omega)).trans hb)) (fun i hi => (hc97_1 _ _ (by omega) (by omega) (by omega)).trans (hB i hi)) ⟨(ae41), (be41), (ce41), de41⟩ hc97_3 hc97_4 hc97_5 (wB_k rfl (by omega) hc97_6)) kX8_294 (by decide) (by decide) rfl rfl (Nat.le_of_ble_eq_true rfl) (D (105, .invokevirtual 294, 3) (mg 60 rfl)) rfl (fun v46 H44 G45 hv46 => ?_)
                obtain ⟨y47, rfl, h01y47, hiy47, f49, ⟨ae48, be48, ce48, de48⟩, aoe48, rce48⟩ := hv46
                have hqe48 : (pItM B n (p1) (z1)).2.1 ≤ n := (pItM_le _ (by omega)).2
                have hle48 : tE B n ((pItM B n (p1) (z1)).2.1) ≤ n := tE_le (by omega)
                have hse48 := tSE B n ((pItM B n (p1) (z1)).2.1)
                have hme48 := tT_le B n ((pItM B n (p1) (z1)).2.1)
                have hge48 := tE_ge B n ((pItM B n (p1) (z1)).2.1)
                obtain ⟨y0e48, y1e48, y2e48, cce48, hcce48, y28e48⟩ := id aoe48
                show X k w _ 108 [some (.ref (wA w (m))), some (.int (nI (it))), none] [.int (y47)] H44 G45
                refine X_if_eq (tgt := 119) C (D (108, .ifCond .eq 11, 3) (mg 61 rfl)) (by decide) (fun q50 => ?_) (fun q50 => ?_)
                · skip
                  refine X_bipush (v := (-10 : Int32)) C (D (119, .bipush (-10), 2) (mg 66 rfl)) (by decide) ?_
                  refine X_aload_n C 0 (D (121, .aload_n 0, 1) (mg 67 rfl)) rfl rfl ?_
                  refine X_get (v := .int (H44 (m) 12)) C (m) 12 (by omega) hsm rfl rfl (by decide) inX8 fX8_250 rfl (D (122, .getfield 250, 3) (mg 68 rfl)) rfl ?_
                  refine X_ti (y := nI (tS B n ((pItM B n (p1) (z1)).2.1))) (ae48) ?_
                  refine X_isub C (D (125, .isub, 1) (mg 69 rfl)) ?_
                  exact X_iret C (D (126, .ireturn, 1) (mg 70 rfl)) (have hr := rQ_f hc97_7 (by omega) htn0 (P := (pItM B n (p1) (z1)).2.1) (z' := (pItM B n (p1) (z1)).2.2) (by first | exact pItM_c.symm.trans (pCl_f (fun u_ => (hiy47).mpr u_.1 (by assumption))) | exact pItM_c.symm.trans (pCl_f (fun u_ => by have a_ := u_.2; omega))); ⟨by rw [rA_f hr], xQ_f hI hr (fun q i z1 z2 z3 => by rw [f49 _ _ (by omega) (by omega) (by omega)]; exact hc97_1 q i z1 z2 z3)⟩)
                · skip
                  obtain ⟨rre48, roe48, rwe48⟩ := rce48 ((hiy47).mp q50)
                  refine X_aload_n C 0 (D (111, .aload_n 0, 1) (mg 62 rfl)) rfl rfl ?_
                  refine X_get (v := .int (H44 (m) 14)) C (m) 14 (by omega) hsm rfl rfl (by decide) inX8 fX8_256 rfl (D (112, .getfield 256, 3) (mg 63 rfl)) rfl ?_
                  refine X_ti (y := nI (tT B n ((pItM B n (p1) (z1)).2.1))) (ce48) ?_
                  refine X_iconst (v := nI (3)) C (D (115, .iconst 3, 1) (mg 64 rfl)) (by decide) ?_
                  refine X_icmp_eq (tgt := 127) C (D (116, .if_icmp .eq 11, 3) (mg 65 rfl)) (by decide) (fun q51 => ?_) (fun q51 => ?_)
                  · skip
                    have q51 : (tT B n ((pItM B n (p1) (z1)).2.1)) = (3) := by have z := (nI_eq (a := (tT B n ((pItM B n (p1) (z1)).2.1))) (b := (3)) (by omega) (by omega)).mp q51; omega
                    have hgt_ := tE_gt2 (B := B) (n := n) (p := (pItM B n (p1) (z1)).2.1) (by omega)
                    have hge_ := (pItM_le (B := B) (n := n) (p := p1) z1 (by omega)).1
                    refine X_aload_n C 0 (D (127, .aload_n 0, 1) (mg 71 rfl)) rfl rfl ?_
                    refine X_cV (As := []) (st := []) C (post := _) (m) (by omega) hsm rfl (cx_X8_goBehind hw hM (B := B) (n := n) (p := (pItM B n (p1) (z1)).2.1) hn (by omega) H44 G45 (((f49 _ _ (by omega) (by omega) (by omega))).trans ((hc97_1 _ _ (by omega) (by omega) (by omega)).trans hb)) (fun i hi => by rw [f49 _ _ (by omega) (by omega) (by omega)]; exact (fun i hi => (hc97_1 _ _ (by omega) (by omega) (by omega)).trans (hB i hi)) i hi) ⟨(ae48), (be48), (ce48), de48⟩) kX8_271 (by decide) (by decide) rfl rfl (Nat.le_of_ble_eq_true rfl) (D (128, .invokevirtual 271, 3) (mg 72 rfl)) rfl (fun v54 H52 G53 hv54 => ?_)
                    obtain ⟨rfl, f55, ae56, be56, ce56, de56⟩ := hv54
                    have hpe56 : tE B n ((pItM B n (p1) (z1)).2.1) ≤ n := by omega
                    have hle56 : tE B n (tE B n ((pItM B n (p1) (z1)).2.1)) ≤ n := tE_le (by omega)
                    have hse56 := tSE B n (tE B n ((pItM B n (p1) (z1)).2.1))
                    have hme56 := tT_le B n (tE B n ((pItM B n (p1) (z1)).2.1))
                    have hge56 := tE_ge B n (tE B n ((pItM B n (p1) (z1)).2.1))
                    show X k w _ 131 [some (.ref (wA w (m))), some (.int (nI (it))), none] [] H52 G53
                    refine X_iinc (v := nI (it + 1)) (ls' := [some (.ref (wA w (m))), some (.int (nI (it + 1))), none]) C (D (131, .iinc 1 1, 3) (mg 73 rfl)) rfl (nI_add (it) 1) rfl ?_
                    refine X_goto (tgt := 97) C (D (134, .goto (-37), 3) (mg 74 rfl)) (by decide) ?_
                    refine X_eq (ls' := [some (.ref (wA w (m))), some (.int (nI (it + 1))), none]) (st' := []) (h' := H52) (g' := G53) rfl rfl rfl rfl ?_
                    exact ih97 (tE B n ((pItM B n (p1) (z1)).2.1)) ((pItM B n (p1) (z1)).2.2) (it + 1) (H52) (G53) (by omega) (fun q i z1 z2 z3 => by rw [f55 _ _ (by omega), f49 _ _ (by omega) (by omega) (by omega)]; exact hc97_1 q i z1 z2 z3) ⟨(ae56), (be56), (ce56), de56⟩ (rM_q (fun i => f55 _ _ (by omega)) rre48) roe48 ⟨(((f55 _ _ (by omega))).trans y0e48), (((f55 _ _ (by omega))).trans y1e48), (((f55 _ _ (by omega))).trans y2e48), cce48, by omega, (((f55 _ _ (by omega))).trans y28e48)⟩ (wB_k (by rw [f55 _ _ (by omega)]) (by omega) rwe48) (rQ_s hc97_7 (by omega) htn0 (pItM_c.symm.trans (pCl_t ((hiy47).mp (by assumption)) (by omega)))) (by omega)
                  · skip
                    have q51 : (tT B n ((pItM B n (p1) (z1)).2.1)) ≠ (3) := by have z : ¬ ((tT B n ((pItM B n (p1) (z1)).2.1)) = (3)) := fun u => q51 ((nI_eq (a := (tT B n ((pItM B n (p1) (z1)).2.1))) (b := (3)) (by omega) (by omega)).mpr u); omega
                    refine X_bipush (v := (-10 : Int32)) C (D (119, .bipush (-10), 2) (mg 66 rfl)) (by decide) ?_
                    refine X_aload_n C 0 (D (121, .aload_n 0, 1) (mg 67 rfl)) rfl rfl ?_
                    refine X_get (v := .int (H44 (m) 12)) C (m) 12 (by omega) hsm rfl rfl (by decide) inX8 fX8_250 rfl (D (122, .getfield 250, 3) (mg 68 rfl)) rfl ?_
                    refine X_ti (y := nI (tS B n ((pItM B n (p1) (z1)).2.1))) (ae48) ?_
                    refine X_isub C (D (125, .isub, 1) (mg 69 rfl)) ?_
                    exact X_iret C (D (126, .ireturn, 1) (mg 70 rfl)) (have hr := rQ_f hc97_7 (by omega) htn0 (P := (pItM B n (p1) (z1)).2.1) (z' := (pItM B n (p1) (z1)).2.2) (by first | exact pItM_c.symm.trans (pCl_f (fun u_ => (hiy47).mpr u_.1 (by assumption))) | exact pItM_c.symm.trans (pCl_f (fun u_ => by have a_ := u_.2; omega))); ⟨by rw [rA_f hr], xQ_f hI hr (fun q i z1 z2 z3 => by rw [f49 _ _ (by omega) (by omega) (by omega)]; exact hc97_1 q i z1 z2 z3)⟩)
          refine X_eq (ls' := [some (.ref (wA w (m))), some (.int (nI (1))), none]) (st' := []) (h' := (bgH H33 (m + 10) (nI (nV B n (tE B n (0)))) (nI (nV B n (tE B n (tE B n (0))))))) (g' := G34) rfl rfl rfl rfl ?_
          exact lp97 _ (tE B n (tE B n (tE B n (tE B n (0))))) (nBeg (nV B n (tE B n (0))) (nV B n (tE B n (tE B n (0))))) (1) ((bgH H33 (m + 10) (nI (nV B n (tE B n (0)))) (nI (nV B n (tE B n (tE B n (0))))))) (G34) (by omega) (fun q i z1 z2 z3 => by rw [bgH_ne _ _ _ _ (by omega), f36 _ _ (by omega), f28 _ _ (by omega) (by omega), f20 _ _ (by omega) (by omega), f14 _ _ (by omega), f4 _ _ (by omega)]) ⟨(((bgH_ne _ _ _ _ (by omega))).trans ae37), (((bgH_ne _ _ _ _ (by omega))).trans be37), (((bgH_ne _ _ _ _ (by omega))).trans ce37), (fun w => by rw [bgH_ne _ _ _ _ (by omega)]; exact de37 w)⟩ (rM_beg _ _ _ _) (nBeg_ok (by omega) (by omega)) ⟨((bgH_0 _ _ _ _ (by omega))), ((bgH_0 _ _ _ _ (by omega))), ((bgH_0 _ _ _ _ (by omega))), nV B n (tE B n (tE B n (0))), by omega, ((bgH_28 _ _ _ _))⟩ ⟨0, bgH_29 _ _ _ _, by omega⟩ ⟨n + 1, by omega, pA_t he_⟩ (Nat.le_refl _)
        · skip
          have q32 : (tT B n (tE B n (tE B n (tE B n (0))))) ≠ (3) := by have z : ¬ ((tT B n (tE B n (tE B n (tE B n (0))))) = (3)) := fun u => q32 ((nI_eq (a := (tT B n (tE B n (tE B n (tE B n (0)))))) (b := (3)) (by omega) (by omega)).mpr u); omega
          refine X_bipush (v := (-10 : Int32)) C (D (64, .bipush (-10), 2) (mg 36 rfl)) (by decide) ?_
          refine X_aload_n C 0 (D (66, .aload_n 0, 1) (mg 37 rfl)) rfl rfl ?_
          refine X_get (v := .int (H24 (m) 12)) C (m) 12 (by omega) hsm rfl rfl (by decide) inX8 fX8_250 rfl (D (67, .getfield 250, 3) (mg 38 rfl)) rfl ?_
          refine X_ti (y := nI (tS B n (tE B n (tE B n (tE B n (0)))))) (ae29) ?_
          refine X_isub C (D (70, .isub, 1) (mg 39 rfl)) ?_
          exact X_iret C (D (71, .ireturn, 1) (mg 40 rfl)) (have hr := pA_f (P := tE B n (tE B n (tE B n (0)))) (z := nBeg (nV B n (tE B n (0))) (nV B n (tE B n (tE B n (0))))) ((pFs1 hw0_.1 hw0_.2).trans (pC_3 (r' := (true, tE B n (tE B n (tE B n (0))), nBeg (nV B n (tE B n (0))) (nV B n (tE B n (tE B n (0)))))) (by unfold pNav; exact ((if_pos (by assumption)).trans (if_pos (by assumption)))) (by show ¬ tT B n (tE B n (tE B n (tE B n (0)))) = 3; omega))); ⟨by rw [rA_f hr], xQ_f hI hr (fun q i z1 z2 z3 => by rw [f28 _ _ (by omega) (by omega), f20 _ _ (by omega) (by omega), f14 _ _ (by omega), f4 _ _ (by omega)])⟩)
  · skip
    have hwy9 : ¬ isW B n (0) 0 := fun u_ => (hiy9).mpr u_ q10
    refine X_bipush (v := (-10 : Int32)) C (D (23, .bipush (-10), 2) (mg 13 rfl)) (by decide) ?_
    refine X_aload_n C 0 (D (25, .aload_n 0, 1) (mg 14 rfl)) rfl rfl ?_
    refine X_get (v := .int (H1 (m) 12)) C (m) 12 (by omega) hsm rfl rfl (by decide) inX8 fX8_250 rfl (D (26, .getfield 250, 3) (mg 15 rfl)) rfl ?_
    refine X_ti (y := nI (tS B n (0))) (ae5) ?_
    refine X_isub C (D (29, .isub, 1) (mg 16 rfl)) ?_
    exact X_iret C (D (30, .ireturn, 1) (mg 17 rfl)) (have hr := pA_f (P := 0) (z := nBeg 0 0) (pFs0 (by assumption)); ⟨by rw [rA_f hr], xQ_f hI hr (fun q i z1 z2 z3 => by rw [f4 _ _ (by omega)])⟩)
