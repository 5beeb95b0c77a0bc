/-! PHASE 2, THE CLASS: takesItem, read, exact -/
theorem pIt1 {B : Nat → Int32} {n p : Nat} {z : nS} (h0 : tT B n p = 1) (h : isV B n p 1) : pItm B n p z = pSto B n (tE B n p) z := by unfold pItm; rw [if_pos ⟨h0, h⟩]
theorem pIt2 {B : Nat → Int32} {n p : Nat} {z : nS} (h0 : tT B n p = 1) (h1 : ¬ isV B n p 1) (h : isV B n p 2) : pItm B n p z = pSay B n (tE B n p) z := by unfold pItm; rw [if_neg (fun u_ => h1 u_.2), if_pos ⟨h0, h⟩]
theorem pIt3 {B : Nat → Int32} {n p : Nat} {z : nS} (h0 : tT B n p = 1) (h1 : ¬ isV B n p 1) (h2 : ¬ isV B n p 2) (h : isV B n p 3) : pItm B n p z = pDra B n (tE B n p) z := by unfold pItm; rw [if_neg (fun u_ => h1 u_.2), if_neg (fun u_ => h2 u_.2), if_pos ⟨h0, h⟩]
theorem pIt4 {B : Nat → Int32} {n p : Nat} {z : nS} (h0 : tT B n p = 1) (h1 : ¬ isV B n p 1) (h2 : ¬ isV B n p 2) (h3 : ¬ isV B n p 3) (h : isV B n p 4) : pItm B n p z = pWee B n (tE B n p) z := by unfold pItm; rw [if_neg (fun u_ => h1 u_.2), if_neg (fun u_ => h2 u_.2), if_neg (fun u_ => h3 u_.2), if_pos ⟨h0, h⟩]
theorem pIt5 {B : Nat → Int32} {n p : Nat} {z : nS} (h1 : ¬ isW B n p 1) (h2 : ¬ isW B n p 2) (h3 : ¬ isW B n p 3) (h4 : ¬ isW B n p 4) : pItm B n p z = (false, p, z) := by unfold pItm; rw [if_neg h1, if_neg h2, if_neg h3, if_neg h4]
theorem pIt0 {B : Nat → Int32} {n p : Nat} {z : nS} (h : tT B n p ≠ 1) : pItm B n p z = (false, p, z) := pIt5 (fun u_ => h u_.1) (fun u_ => h u_.1) (fun u_ => h u_.1) (fun u_ => h u_.1)
theorem pIn0 {B : Nat → Int32} {n p : Nat} {z : nS} (h0 : tT B n p = 1) (h : isV B n p 0) : pItm B n p z = (false, p, z) := pIt5 (isW_0 (by omega) ⟨h0, h⟩) (isW_0 (by omega) ⟨h0, h⟩) (isW_0 (by omega) ⟨h0, h⟩) (isW_0 (by omega) ⟨h0, h⟩)
theorem pFs1 {B : Nat → Int32} {n p : Nat} (h0 : tT B n p = 1) (h : isV B n p 0) : pFst B n p = pCl B n (pNav B n (tE B n p)) := if_pos ⟨h0, h⟩
theorem pFs0 {B : Nat → Int32} {n p : Nat} (h : ¬ isW B n p 0) : pFst B n p = (false, p, nBeg 0 0) := if_neg h
theorem pC_t {B : Nat → Int32} {n : Nat} {r r' : rT} (e : r = r') (h1 : r'.1 = true) (h2 : tT B n r'.2.1 = 3) : pCl B n r = (true, tE B n r'.2.1, r'.2.2) := by rw [e]; exact pCl_t h1 h2
theorem pC_n {B : Nat → Int32} {n : Nat} {r r' : rT} (e : r = r') (h1 : ¬ r'.1 = true) : pCl B n r = (false, r'.2.1, r'.2.2) := by rw [e]; exact pCl_f (fun u_ => h1 u_.1)
theorem pC_3 {B : Nat → Int32} {n : Nat} {r r' : rT} (e : r = r') (h2 : ¬ tT B n r'.2.1 = 3) : pCl B n r = (false, r'.2.1, r'.2.2) := by rw [e]; exact pCl_f (fun u_ => h2 u_.2)
theorem pC_f {B : Nat → Int32} {n p : Nat} {r : rT} {z : nS} (e : r = (false, p, z)) : pCl B n r = (false, p, z) := by rw [e]; exact pCl_f (fun u_ => by cases u_.1)
set_option maxHeartbeats 4000000 in
set_option maxRecDepth 100000 in
theorem cx_X5_takesItem1 {l : Launch} {w : Kw} (hw : wOk w) {t n : Nat} (hX : shX w t) (hn : n ≤ 150) {B : Nat → Int32} {aK aV : Nat → Nat} {zr : Value} (hs : sOk w aK aV zr) (hz : zr = .null ∨ ∃ ra, zr = .ref ra) {p : Nat} (hp : p ≤ n) (h : xI) (g : xJ) (hb : h t 2 = nI n) (hB : ∀ i, i < n → h (t + 1) i = B i) (hk : kT B n p t h) (hat0 : atOk h (t + 2)) : Ct l w yX5_takesItem cX5_takesItem 3 (some .boolean) 5 107 [.ref (wA w (t)), .int (nI (1))] h g (pBr (pFst B n p) (xC B n t h (pFst B n p))) := by
  refine Ct_of (ls := [some (.ref (wA w (t))), some (.int (nI (1))), none]) (by decide) hw (Nat.le_of_ble_eq_true rfl) rfl (fun k hkl C => ?_)
  have C : Cx k w cX5_takesItem RX5 3 (some .boolean) 5 107 := C
  have D := dtX5_takesItem
  subst hkl
  have hX0 := hX
  obtain ⟨htn, hst, hs1, hN2⟩ := hX
  have hX := hX0
  obtain ⟨ht3, ht4, ht5, ht6⟩ := hk
  have hle0 : tE B n p ≤ n := tE_le hp
  have hm0 := cT_le (tT_le B n p)
  refine X_iconst (v := nI (0)) C (D (0, .iconst 0, 1) (mg 0 rfl)) (by decide) ?_
  refine X_istore_n (ls' := [some (.ref (wA w (t))), some (.int (nI (1))), some (.int (nI (0)))]) C 2 (D (1, .istore_n 2, 1) (mg 1 rfl)) rfl (Nat.le_of_ble_eq_true rfl) rfl ?_
  refine X_aload_n C 0 (D (2, .aload_n 0, 1) (mg 2 rfl)) rfl rfl ?_
  refine X_get (v := .int (h (t) 5)) C (t) 5 (by omega) hst rfl rfl (by decide) inX5 fX5_29 rfl (D (3, .getfield 29, 3) (mg 3 rfl)) rfl ?_
  refine X_ti (y := nI (cT (tT B n (p)))) (ht5) ?_
  refine X_if_ne (tgt := 19) C (D (6, .ifCond .ne 13, 3) (mg 4 rfl)) (by decide) (fun q1 => ?_) (fun q1 => ?_)
  · skip
    have q1 : (cT (tT B n (p))) ≠ (0) := by have z : ¬ ((cT (tT B n (p))) = (0)) := fun u => q1 ((nI_eq (a := (cT (tT B n (p)))) (b := (0)) (by omega) (by omega)).mpr u); omega
    refine X_iconst (v := nI (0)) C (D (19, .iconst 0, 1) (mg 10 rfl)) (by decide) ?_
    exact X_zret C (D (20, .ireturn, 1) (mg 11 rfl)) rfl (have hr : pFst B n p = (false, p, nBeg 0 0) := pFs0 (by first | exact (fun u_ => absurd (cT_0.mpr u_.1) (by assumption)) | exact (fun u_ => absurd u_.2 (by assumption))); pBr_f hr (xC_f hr (fun q i z1 z2 => rfl) ⟨(ht3), (ht4), (ht5), ht6⟩ hat0))
  · skip
    have q1 : (cT (tT B n (p))) = (0) := by have z := (nI_eq (a := (cT (tT B n (p)))) (b := (0)) (by omega) (by omega)).mp q1; omega
    refine X_iload_n C 1 (D (9, .iload_n 1, 1) (mg 5 rfl)) rfl rfl ?_
    refine X_aload_n C 0 (D (10, .aload_n 0, 1) (mg 6 rfl)) rfl rfl ?_
    refine X_ldcS C (fun U e => (hs U e).2.1 0 (by decide)) (D (11, .ldc 58, 2) (mg 7 rfl)) ?_
    refine X_cV (As := [.ref (aK (0))]) (st := [.int (nI (1))]) C (post := _) (t) (by omega) hst rfl (cx_X5_isWord hw (t := t) (n := n) hX hn (B := B) hs hz (p := p) (by omega) (i := 0) (by decide) h g (hb) hB (ht3) (ht4)) kX5_59 (by decide) (by decide) rfl rfl (Nat.le_of_ble_eq_true rfl) (D (13, .invokevirtual 59, 3) (mg 8 rfl)) rfl (fun v4 H2 G3 hv4 => ?_)
    obtain ⟨rfl, rfl, rfl⟩ := hv4
    show X k w _ 16 [some (.ref (wA w (t))), some (.int (nI (1))), some (.int (nI (0)))] [.int (if isV B n (p) (0) then 1 else 0), .int (nI (1))] h g
    refine X_icmp_eq (tgt := 21) C (D (16, .if_icmp .eq 5, 3) (mg 9 rfl)) (by decide) (fun q5 => ?_) (fun q5 => ?_)
    · skip
      have q5 : isV B n (p) (0) := bq1.mp q5
      refine X_iload_n C 1 (D (21, .iload_n 1, 1) (mg 12 rfl)) rfl rfl ?_
      refine X_if_eq (tgt := 33) C (D (22, .ifCond .eq 11, 3) (mg 13 rfl)) (by decide) (fun q6 => ?_) (fun q6 => ?_)
      · skip
        exact absurd q6 (by decide)
      · skip
        refine X_aload_n C 0 (D (25, .aload_n 0, 1) (mg 14 rfl)) rfl rfl ?_
        refine X_cV (As := []) (st := []) C (post := _) (t) (by omega) hst rfl (cx_X5_takesNave hw (t := t) (n := n) hX hn (B := B) (p := p) (by omega) h g (hb) hB ⟨(ht3), (ht4), (ht5), ht6⟩ hat0) kX5_63 (by decide) (by decide) rfl rfl (Nat.le_of_ble_eq_true rfl) (D (26, .invokevirtual 63, 3) (mg 15 rfl)) rfl (fun v9 H7 G8 hv9 => ?_)
        obtain ⟨y10, rfl, h01y10, hiy10, f12, ⟨ae11, be11, ce11, de11⟩, ate11, rce11⟩ := hv9
        have hme11 := cT_le (tT_le B n ((pNav B n (tE B n (p))).2.1))
        show X k w _ 29 [some (.ref (wA w (t))), some (.int (nI (1))), some (.int (nI (0)))] [.int (y10)] H7 G8
        have hl13 : (pNav B n (tE B n (p))).2.1 ≤ n := (pNav_le (tE_le (by omega))).2
        refine X_istore_n (ls' := [some (.ref (wA w (t))), some (.int (nI (1))), some (.int (y10))]) C 2 (D (29, .istore_n 2, 1) (mg 16 rfl)) rfl (Nat.le_of_ble_eq_true rfl) rfl ?_
        refine X_goto (tgt := 98) C (D (30, .goto 68, 3) (mg 17 rfl)) (by decide) ?_
        refine X_iload_n C 2 (D (98, .iload_n 2, 1) (mg 49 rfl)) rfl rfl ?_
        refine X_if_eq (tgt := 110) C (D (99, .ifCond .eq 11, 3) (mg 50 rfl)) (by decide) (fun q14 => ?_) (fun q14 => ?_)
        · skip
          refine X_iconst (v := nI (0)) C (D (110, .iconst 0, 1) (mg 55 rfl)) (by decide) ?_
          exact X_zret C (D (111, .ireturn, 1) (mg 56 rfl)) rfl (have hr : pFst B n p = (false, (pNav B n (tE B n (p))).2.1, (pNav B n (tE B n (p))).2.2) := (by first | exact (pFs1 (cT_0.mp (by omega)) (by assumption)).trans (pC_n (rfl) (fun u_ => (hiy10).mpr u_ (by assumption))) | exact (pFs1 (cT_0.mp (by omega)) (by assumption)).trans (pC_3 (rfl) (fun u_ => absurd (cT_2.mpr u_) (by assumption)))); pBr_f hr (xC_f hr (fun q i z1 z2 => by rw [f12 _ _ (by omega) (by omega)]) ⟨(ae11), (be11), (ce11), de11⟩ ate11))
        · skip
          obtain ⟨rre11, roe11⟩ := rce11 ((hiy10).mp q14)
          refine X_aload_n C 0 (D (102, .aload_n 0, 1) (mg 51 rfl)) rfl rfl ?_
          refine X_get (v := .int (H7 (t) 5)) C (t) 5 (by omega) hst rfl rfl (by decide) inX5 fX5_29 rfl (D (103, .getfield 29, 3) (mg 52 rfl)) rfl ?_
          refine X_ti (y := nI (cT (tT B n ((pNav B n (tE B n (p))).2.1)))) (ce11) ?_
          refine X_iconst (v := nI (2)) C (D (106, .iconst 2, 1) (mg 53 rfl)) (by decide) ?_
          refine X_icmp_eq (tgt := 112) C (D (107, .if_icmp .eq 5, 3) (mg 54 rfl)) (by decide) (fun q15 => ?_) (fun q15 => ?_)
          · skip
            have q15 : (cT (tT B n ((pNav B n (tE B n (p))).2.1))) = (2) := by have z := (nI_eq (a := (cT (tT B n ((pNav B n (tE B n (p))).2.1)))) (b := (2)) (by omega) (by omega)).mp q15; omega
            refine X_aload_n C 0 (D (112, .aload_n 0, 1) (mg 57 rfl)) rfl rfl ?_
            refine X_cV (As := []) (st := []) C (post := _) (t) (by omega) hst rfl (cx_X5_advance hw (t := t) (n := n) hX hn (B := B) (p := tE B n ((pNav B n (tE B n (p))).2.1)) (tE_le (by omega)) H7 G8 (((f12 _ _ (by omega) (by omega))).trans hb) (fun i hi => by rw [f12 _ _ (by omega) (by omega)]; exact hB i hi) (ae11)) kX5_26 (by decide) (by decide) rfl rfl (Nat.le_of_ble_eq_true rfl) (D (113, .invokevirtual 26, 3) (mg 58 rfl)) rfl (fun v18 H16 G17 hv18 => ?_)
            obtain ⟨rfl, f19, ae20, be20, ce20, de20⟩ := hv18
            have hle20 : tE B n ((pNav B n (tE B n (p))).2.1) ≤ n := tE_le (by omega)
            have hme20 := cT_le (tT_le B n (tE B n ((pNav B n (tE B n (p))).2.1)))
            show X k w _ 116 [some (.ref (wA w (t))), some (.int (nI (1))), some (.int (y10))] [] H16 G17
            refine X_iconst (v := nI (1)) C (D (116, .iconst 1, 1) (mg 59 rfl)) (by decide) ?_
            exact X_zret C (D (117, .ireturn, 1) (mg 60 rfl)) rfl (have hr : pFst B n p = (true, tE B n ((pNav B n (tE B n (p))).2.1), (pNav B n (tE B n (p))).2.2) := (pFs1 (cT_0.mp (by omega)) (by assumption)).trans (pC_t (rfl) ((hiy10).mp (by assumption)) (cT_2.mp (by omega))); pBr_t hr (xC_t hr (fun q i z1 z2 => by rw [f19 _ _ (by omega), f12 _ _ (by omega) (by omega)]) ⟨(ae20), (be20), (ce20), de20⟩ (rC_k (fun q i z1 z2 => f19 _ _ (by omega)) rre11) roe11))
          · skip
            have q15 : (cT (tT B n ((pNav B n (tE B n (p))).2.1))) ≠ (2) := by have z : ¬ ((cT (tT B n ((pNav B n (tE B n (p))).2.1))) = (2)) := fun u => q15 ((nI_eq (a := (cT (tT B n ((pNav B n (tE B n (p))).2.1)))) (b := (2)) (by omega) (by omega)).mpr u); omega
            refine X_iconst (v := nI (0)) C (D (110, .iconst 0, 1) (mg 55 rfl)) (by decide) ?_
            exact X_zret C (D (111, .ireturn, 1) (mg 56 rfl)) rfl (have hr : pFst B n p = (false, (pNav B n (tE B n (p))).2.1, (pNav B n (tE B n (p))).2.2) := (by first | exact (pFs1 (cT_0.mp (by omega)) (by assumption)).trans (pC_n (rfl) (fun u_ => (hiy10).mpr u_ (by assumption))) | exact (pFs1 (cT_0.mp (by omega)) (by assumption)).trans (pC_3 (rfl) (fun u_ => absurd (cT_2.mpr u_) (by assumption)))); pBr_f hr (xC_f hr (fun q i z1 z2 => by rw [f12 _ _ (by omega) (by omega)]) ⟨(ae11), (be11), (ce11), de11⟩ (rC_at rre11 roe11)))
    · skip
      have q5 : ¬ isV B n (p) (0) := fun u_ => q5 (bq1.mpr u_)
      refine X_iconst (v := nI (0)) C (D (19, .iconst 0, 1) (mg 10 rfl)) (by decide) ?_
      exact X_zret C (D (20, .ireturn, 1) (mg 11 rfl)) rfl (have hr : pFst B n p = (false, p, nBeg 0 0) := pFs0 (by first | exact (fun u_ => absurd (cT_0.mpr u_.1) (by assumption)) | exact (fun u_ => absurd u_.2 (by assumption))); pBr_f hr (xC_f hr (fun q i z1 z2 => rfl) ⟨(ht3), (ht4), (ht5), ht6⟩ hat0))
set_option maxHeartbeats 4000000 in
set_option maxRecDepth 100000 in
theorem cx_X5_takesItem0 {l : Launch} {w : Kw} (hw : wOk w) {t n : Nat} (hX : shX w t) (hn : n ≤ 150) {B : Nat → Int32} {aK aV : Nat → Nat} {zr : Value} (hs : sOk w aK aV zr) (hz : zr = .null ∨ ∃ ra, zr = .ref ra) {p : Nat} (hp : p ≤ n) {z : nS} (h : xI) (g : xJ) (hb : h t 2 = nI n) (hB : ∀ i, i < n → h (t + 1) i = B i) (hk : kT B n p t h) (hrc : rC h (t + 2) z) (hok : nOk z) : Ct l w yX5_takesItem cX5_takesItem 3 (some .boolean) 5 107 [.ref (wA w (t)), .int (nI (0))] h g (pBr (pCl B n (pItm B n p z)) (xC B n t h (pCl B n (pItm B n p z)))) := by
  refine Ct_of (ls := [some (.ref (wA w (t))), some (.int (nI (0))), none]) (by decide) hw (Nat.le_of_ble_eq_true rfl) rfl (fun k hkl C => ?_)
  have C : Cx k w cX5_takesItem RX5 3 (some .boolean) 5 107 := C
  have D := dtX5_takesItem
  subst hkl
  have hX0 := hX
  obtain ⟨htn, hst, hs1, hN2⟩ := hX
  have hX := hX0
  obtain ⟨ht3, ht4, ht5, ht6⟩ := hk
  have hle0 : tE B n p ≤ n := tE_le hp
  have hm0 := cT_le (tT_le B n p)
  have hat0 := rC_at hrc hok
  refine X_iconst (v := nI (0)) C (D (0, .iconst 0, 1) (mg 0 rfl)) (by decide) ?_
  refine X_istore_n (ls' := [some (.ref (wA w (t))), some (.int (nI (0))), some (.int (nI (0)))]) C 2 (D (1, .istore_n 2, 1) (mg 1 rfl)) rfl (Nat.le_of_ble_eq_true rfl) rfl ?_
  refine X_aload_n C 0 (D (2, .aload_n 0, 1) (mg 2 rfl)) rfl rfl ?_
  refine X_get (v := .int (h (t) 5)) C (t) 5 (by omega) hst rfl rfl (by decide) inX5 fX5_29 rfl (D (3, .getfield 29, 3) (mg 3 rfl)) rfl ?_
  refine X_ti (y := nI (cT (tT B n (p)))) (ht5) ?_
  refine X_if_ne (tgt := 19) C (D (6, .ifCond .ne 13, 3) (mg 4 rfl)) (by decide) (fun q1 => ?_) (fun q1 => ?_)
  · skip
    have q1 : (cT (tT B n (p))) ≠ (0) := by have z : ¬ ((cT (tT B n (p))) = (0)) := fun u => q1 ((nI_eq (a := (cT (tT B n (p)))) (b := (0)) (by omega) (by omega)).mpr u); omega
    refine X_iconst (v := nI (0)) C (D (19, .iconst 0, 1) (mg 10 rfl)) (by decide) ?_
    exact X_zret C (D (20, .ireturn, 1) (mg 11 rfl)) rfl (have hr : pCl B n (pItm B n p z) = (false, p, z) := pC_f (by first | exact pIt0 (fun u_ => absurd (cT_0.mpr u_) (by assumption)) | exact pIn0 (cT_0.mp (by omega)) (by assumption)); pBr_f hr (xC_f hr (fun q i z1 z2 => rfl) ⟨(ht3), (ht4), (ht5), ht6⟩ (rC_at hrc hok)))
  · skip
    have q1 : (cT (tT B n (p))) = (0) := by have z := (nI_eq (a := (cT (tT B n (p)))) (b := (0)) (by omega) (by omega)).mp q1; omega
    refine X_iload_n C 1 (D (9, .iload_n 1, 1) (mg 5 rfl)) rfl rfl ?_
    refine X_aload_n C 0 (D (10, .aload_n 0, 1) (mg 6 rfl)) rfl rfl ?_
    refine X_ldcS C (fun U e => (hs U e).2.1 0 (by decide)) (D (11, .ldc 58, 2) (mg 7 rfl)) ?_
    refine X_cV (As := [.ref (aK (0))]) (st := [.int (nI (0))]) C (post := _) (t) (by omega) hst rfl (cx_X5_isWord hw (t := t) (n := n) hX hn (B := B) hs hz (p := p) (by omega) (i := 0) (by decide) h g (hb) hB (ht3) (ht4)) kX5_59 (by decide) (by decide) rfl rfl (Nat.le_of_ble_eq_true rfl) (D (13, .invokevirtual 59, 3) (mg 8 rfl)) rfl (fun v4 H2 G3 hv4 => ?_)
    obtain ⟨rfl, rfl, rfl⟩ := hv4
    show X k w _ 16 [some (.ref (wA w (t))), some (.int (nI (0))), some (.int (nI (0)))] [.int (if isV B n (p) (0) then 1 else 0), .int (nI (0))] h g
    refine X_icmp_eq (tgt := 21) C (D (16, .if_icmp .eq 5, 3) (mg 9 rfl)) (by decide) (fun q5 => ?_) (fun q5 => ?_)
    · skip
      have q5 : ¬ isV B n (p) (0) := bq0.mp q5
      refine X_iload_n C 1 (D (21, .iload_n 1, 1) (mg 12 rfl)) rfl rfl ?_
      refine X_if_eq (tgt := 33) C (D (22, .ifCond .eq 11, 3) (mg 13 rfl)) (by decide) (fun q6 => ?_) (fun q6 => ?_)
      · skip
        refine X_aload_n C 0 (D (33, .aload_n 0, 1) (mg 18 rfl)) rfl rfl ?_
        refine X_ldcS C (fun U e => (hs U e).2.1 1 (by decide)) (D (34, .ldc 67, 2) (mg 19 rfl)) ?_
        refine X_cV (As := [.ref (aK (1))]) (st := []) C (post := _) (t) (by omega) hst rfl (cx_X5_isWord hw (t := t) (n := n) hX hn (B := B) hs hz (p := p) (by omega) (i := 1) (by decide) h g (hb) hB (ht3) (ht4)) kX5_59 (by decide) (by decide) rfl rfl (Nat.le_of_ble_eq_true rfl) (D (36, .invokevirtual 59, 3) (mg 20 rfl)) rfl (fun v9 H7 G8 hv9 => ?_)
        obtain ⟨rfl, rfl, rfl⟩ := hv9
        show X k w _ 39 [some (.ref (wA w (t))), some (.int (nI (0))), some (.int (nI (0)))] [.int (if isV B n (p) (1) then 1 else 0)] h g
        refine X_if_eq (tgt := 50) C (D (39, .ifCond .eq 11, 3) (mg 21 rfl)) (by decide) (fun q10 => ?_) (fun q10 => ?_)
        · skip
          have q10 : ¬ (isV B n (p) (1)) := bz0.mp q10
          refine X_aload_n C 0 (D (50, .aload_n 0, 1) (mg 26 rfl)) rfl rfl ?_
          refine X_ldcS C (fun U e => (hs U e).2.1 2 (by decide)) (D (51, .ldc 72, 2) (mg 27 rfl)) ?_
          refine X_cV (As := [.ref (aK (2))]) (st := []) C (post := _) (t) (by omega) hst rfl (cx_X5_isWord hw (t := t) (n := n) hX hn (B := B) hs hz (p := p) (by omega) (i := 2) (by decide) h g (hb) hB (ht3) (ht4)) kX5_59 (by decide) (by decide) rfl rfl (Nat.le_of_ble_eq_true rfl) (D (53, .invokevirtual 59, 3) (mg 28 rfl)) rfl (fun v13 H11 G12 hv13 => ?_)
          obtain ⟨rfl, rfl, rfl⟩ := hv13
          show X k w _ 56 [some (.ref (wA w (t))), some (.int (nI (0))), some (.int (nI (0)))] [.int (if isV B n (p) (2) then 1 else 0)] h g
          refine X_if_eq (tgt := 67) C (D (56, .ifCond .eq 11, 3) (mg 29 rfl)) (by decide) (fun q14 => ?_) (fun q14 => ?_)
          · skip
            have q14 : ¬ (isV B n (p) (2)) := bz0.mp q14
            refine X_aload_n C 0 (D (67, .aload_n 0, 1) (mg 34 rfl)) rfl rfl ?_
            refine X_ldcS C (fun U e => (hs U e).2.1 3 (by decide)) (D (68, .ldc 77, 2) (mg 35 rfl)) ?_
            refine X_cV (As := [.ref (aK (3))]) (st := []) C (post := _) (t) (by omega) hst rfl (cx_X5_isWord hw (t := t) (n := n) hX hn (B := B) hs hz (p := p) (by omega) (i := 3) (by decide) h g (hb) hB (ht3) (ht4)) kX5_59 (by decide) (by decide) rfl rfl (Nat.le_of_ble_eq_true rfl) (D (70, .invokevirtual 59, 3) (mg 36 rfl)) rfl (fun v17 H15 G16 hv17 => ?_)
            obtain ⟨rfl, rfl, rfl⟩ := hv17
            show X k w _ 73 [some (.ref (wA w (t))), some (.int (nI (0))), some (.int (nI (0)))] [.int (if isV B n (p) (3) then 1 else 0)] h g
            refine X_if_eq (tgt := 84) C (D (73, .ifCond .eq 11, 3) (mg 37 rfl)) (by decide) (fun q18 => ?_) (fun q18 => ?_)
            · skip
              have q18 : ¬ (isV B n (p) (3)) := bz0.mp q18
              refine X_aload_n C 0 (D (84, .aload_n 0, 1) (mg 42 rfl)) rfl rfl ?_
              refine X_ldcS C (fun U e => (hs U e).2.1 4 (by decide)) (D (85, .ldc 82, 2) (mg 43 rfl)) ?_
              refine X_cV (As := [.ref (aK (4))]) (st := []) C (post := _) (t) (by omega) hst rfl (cx_X5_isWord hw (t := t) (n := n) hX hn (B := B) hs hz (p := p) (by omega) (i := 4) (by decide) h g (hb) hB (ht3) (ht4)) kX5_59 (by decide) (by decide) rfl rfl (Nat.le_of_ble_eq_true rfl) (D (87, .invokevirtual 59, 3) (mg 44 rfl)) rfl (fun v21 H19 G20 hv21 => ?_)
              obtain ⟨rfl, rfl, rfl⟩ := hv21
              show X k w _ 90 [some (.ref (wA w (t))), some (.int (nI (0))), some (.int (nI (0)))] [.int (if isV B n (p) (4) then 1 else 0)] h g
              refine X_if_eq (tgt := 98) C (D (90, .ifCond .eq 8, 3) (mg 45 rfl)) (by decide) (fun q22 => ?_) (fun q22 => ?_)
              · skip
                have q22 : ¬ (isV B n (p) (4)) := bz0.mp q22
                refine X_iload_n C 2 (D (98, .iload_n 2, 1) (mg 49 rfl)) rfl rfl ?_
                refine X_if_eq (tgt := 110) C (D (99, .ifCond .eq 11, 3) (mg 50 rfl)) (by decide) (fun q23 => ?_) (fun q23 => ?_)
                · skip
                  refine X_iconst (v := nI (0)) C (D (110, .iconst 0, 1) (mg 55 rfl)) (by decide) ?_
                  exact X_zret C (D (111, .ireturn, 1) (mg 56 rfl)) rfl (have hr : pCl B n (pItm B n p z) = (false, p, z) := pC_f (pIt5 (fun u_ => absurd u_.2 (by assumption)) (fun u_ => absurd u_.2 (by assumption)) (fun u_ => absurd u_.2 (by assumption)) (fun u_ => absurd u_.2 (by assumption))); pBr_f hr (xC_f hr (fun q i z1 z2 => rfl) ⟨(ht3), (ht4), (ht5), ht6⟩ (rC_at hrc hok)))
                · skip
                  exact absurd q23 (by decide)
              · skip
                have q22 : (isV B n (p) (4)) := bz1.mp q22
                refine X_aload_n C 0 (D (93, .aload_n 0, 1) (mg 46 rfl)) rfl rfl ?_
                refine X_cV (As := []) (st := []) C (post := _) (t) (by omega) hst rfl (cx_X5_takesWeeks hw (t := t) (n := n) hX hn (B := B) (p := p) (by omega) (z := z) h g (hb) hB ⟨(ht3), (ht4), (ht5), ht6⟩ hrc hok) kX5_84 (by decide) (by decide) rfl rfl (Nat.le_of_ble_eq_true rfl) (D (94, .invokevirtual 84, 3) (mg 47 rfl)) rfl (fun v26 H24 G25 hv26 => ?_)
                obtain ⟨y27, rfl, h01y27, hiy27, f29, ⟨ae28, be28, ce28, de28⟩, ate28, rce28⟩ := hv26
                have hme28 := cT_le (tT_le B n ((pWee B n (tE B n (p)) (z)).2.1))
                show X k w _ 97 [some (.ref (wA w (t))), some (.int (nI (0))), some (.int (nI (0)))] [.int (y27)] H24 G25
                have hl30 : (pWee B n (tE B n (p)) (z)).2.1 ≤ n := (pWee_le _ (tE_le (by omega))).2
                refine X_istore_n (ls' := [some (.ref (wA w (t))), some (.int (nI (0))), some (.int (y27))]) C 2 (D (97, .istore_n 2, 1) (mg 48 rfl)) rfl (Nat.le_of_ble_eq_true rfl) rfl ?_
                refine X_iload_n C 2 (D (98, .iload_n 2, 1) (mg 49 rfl)) rfl rfl ?_
                refine X_if_eq (tgt := 110) C (D (99, .ifCond .eq 11, 3) (mg 50 rfl)) (by decide) (fun q31 => ?_) (fun q31 => ?_)
                · skip
                  refine X_iconst (v := nI (0)) C (D (110, .iconst 0, 1) (mg 55 rfl)) (by decide) ?_
                  exact X_zret C (D (111, .ireturn, 1) (mg 56 rfl)) rfl (have hr : pCl B n (pItm B n p z) = (false, (pWee B n (tE B n (p)) (z)).2.1, (pWee B n (tE B n (p)) (z)).2.2) := (by first | exact pC_n (pIt4 (cT_0.mp (by omega)) (by assumption) (by assumption) (by assumption) (by assumption)) (fun u_ => (hiy27).mpr u_ (by assumption)) | exact pC_3 (pIt4 (cT_0.mp (by omega)) (by assumption) (by assumption) (by assumption) (by assumption)) (fun u_ => absurd (cT_2.mpr u_) (by assumption))); pBr_f hr (xC_f hr (fun q i z1 z2 => by rw [f29 _ _ (by omega) (by omega)]) ⟨(ae28), (be28), (ce28), de28⟩ ate28))
                · skip
                  obtain ⟨rre28, roe28⟩ := rce28 ((hiy27).mp q31)
                  refine X_aload_n C 0 (D (102, .aload_n 0, 1) (mg 51 rfl)) rfl rfl ?_
                  refine X_get (v := .int (H24 (t) 5)) C (t) 5 (by omega) hst rfl rfl (by decide) inX5 fX5_29 rfl (D (103, .getfield 29, 3) (mg 52 rfl)) rfl ?_
                  refine X_ti (y := nI (cT (tT B n ((pWee B n (tE B n (p)) (z)).2.1)))) (ce28) ?_
                  refine X_iconst (v := nI (2)) C (D (106, .iconst 2, 1) (mg 53 rfl)) (by decide) ?_
                  refine X_icmp_eq (tgt := 112) C (D (107, .if_icmp .eq 5, 3) (mg 54 rfl)) (by decide) (fun q32 => ?_) (fun q32 => ?_)
                  · skip
                    have q32 : (cT (tT B n ((pWee B n (tE B n (p)) (z)).2.1))) = (2) := by have z := (nI_eq (a := (cT (tT B n ((pWee B n (tE B n (p)) (z)).2.1)))) (b := (2)) (by omega) (by omega)).mp q32; omega
                    refine X_aload_n C 0 (D (112, .aload_n 0, 1) (mg 57 rfl)) rfl rfl ?_
                    refine X_cV (As := []) (st := []) C (post := _) (t) (by omega) hst rfl (cx_X5_advance hw (t := t) (n := n) hX hn (B := B) (p := tE B n ((pWee B n (tE B n (p)) (z)).2.1)) (tE_le (by omega)) H24 G25 (((f29 _ _ (by omega) (by omega))).trans hb) (fun i hi => by rw [f29 _ _ (by omega) (by omega)]; exact hB i hi) (ae28)) kX5_26 (by decide) (by decide) rfl rfl (Nat.le_of_ble_eq_true rfl) (D (113, .invokevirtual 26, 3) (mg 58 rfl)) rfl (fun v35 H33 G34 hv35 => ?_)
                    obtain ⟨rfl, f36, ae37, be37, ce37, de37⟩ := hv35
                    have hle37 : tE B n ((pWee B n (tE B n (p)) (z)).2.1) ≤ n := tE_le (by omega)
                    have hme37 := cT_le (tT_le B n (tE B n ((pWee B n (tE B n (p)) (z)).2.1)))
                    show X k w _ 116 [some (.ref (wA w (t))), some (.int (nI (0))), some (.int (y27))] [] H33 G34
                    refine X_iconst (v := nI (1)) C (D (116, .iconst 1, 1) (mg 59 rfl)) (by decide) ?_
                    exact X_zret C (D (117, .ireturn, 1) (mg 60 rfl)) rfl (have hr : pCl B n (pItm B n p z) = (true, tE B n ((pWee B n (tE B n (p)) (z)).2.1), (pWee B n (tE B n (p)) (z)).2.2) := pC_t (pIt4 (cT_0.mp (by omega)) (by assumption) (by assumption) (by assumption) (by assumption)) ((hiy27).mp (by assumption)) (cT_2.mp (by omega)); pBr_t hr (xC_t hr (fun q i z1 z2 => by rw [f36 _ _ (by omega), f29 _ _ (by omega) (by omega)]) ⟨(ae37), (be37), (ce37), de37⟩ (rC_k (fun q i z1 z2 => f36 _ _ (by omega)) rre28) roe28))
                  · skip
                    have q32 : (cT (tT B n ((pWee B n (tE B n (p)) (z)).2.1))) ≠ (2) := by have z : ¬ ((cT (tT B n ((pWee B n (tE B n (p)) (z)).2.1))) = (2)) := fun u => q32 ((nI_eq (a := (cT (tT B n ((pWee B n (tE B n (p)) (z)).2.1)))) (b := (2)) (by omega) (by omega)).mpr u); omega
                    refine X_iconst (v := nI (0)) C (D (110, .iconst 0, 1) (mg 55 rfl)) (by decide) ?_
                    exact X_zret C (D (111, .ireturn, 1) (mg 56 rfl)) rfl (have hr : pCl B n (pItm B n p z) = (false, (pWee B n (tE B n (p)) (z)).2.1, (pWee B n (tE B n (p)) (z)).2.2) := (by first | exact pC_n (pIt4 (cT_0.mp (by omega)) (by assumption) (by assumption) (by assumption) (by assumption)) (fun u_ => (hiy27).mpr u_ (by assumption)) | exact pC_3 (pIt4 (cT_0.mp (by omega)) (by assumption) (by assumption) (by assumption) (by assumption)) (fun u_ => absurd (cT_2.mpr u_) (by assumption))); pBr_f hr (xC_f hr (fun q i z1 z2 => by rw [f29 _ _ (by omega) (by omega)]) ⟨(ae28), (be28), (ce28), de28⟩ (rC_at rre28 roe28)))
            · skip
              have q18 : (isV B n (p) (3)) := bz1.mp q18
              refine X_aload_n C 0 (D (76, .aload_n 0, 1) (mg 38 rfl)) rfl rfl ?_
              refine X_cV (As := []) (st := []) C (post := _) (t) (by omega) hst rfl (cx_X5_takesDrag hw (t := t) (n := n) hX hn (B := B) (p := p) (by omega) (z := z) h g (hb) hB ⟨(ht3), (ht4), (ht5), ht6⟩ hrc hok) kX5_79 (by decide) (by decide) rfl rfl (Nat.le_of_ble_eq_true rfl) (D (77, .invokevirtual 79, 3) (mg 39 rfl)) rfl (fun v40 H38 G39 hv40 => ?_)
              obtain ⟨y41, rfl, h01y41, hiy41, f43, ⟨ae42, be42, ce42, de42⟩, ate42, rce42⟩ := hv40
              have hme42 := cT_le (tT_le B n ((pDra B n (tE B n (p)) (z)).2.1))
              show X k w _ 80 [some (.ref (wA w (t))), some (.int (nI (0))), some (.int (nI (0)))] [.int (y41)] H38 G39
              have hl44 : (pDra B n (tE B n (p)) (z)).2.1 ≤ n := (pDra_le _ (tE_le (by omega))).2
              refine X_istore_n (ls' := [some (.ref (wA w (t))), some (.int (nI (0))), some (.int (y41))]) C 2 (D (80, .istore_n 2, 1) (mg 40 rfl)) rfl (Nat.le_of_ble_eq_true rfl) rfl ?_
              refine X_goto (tgt := 98) C (D (81, .goto 17, 3) (mg 41 rfl)) (by decide) ?_
              refine X_iload_n C 2 (D (98, .iload_n 2, 1) (mg 49 rfl)) rfl rfl ?_
              refine X_if_eq (tgt := 110) C (D (99, .ifCond .eq 11, 3) (mg 50 rfl)) (by decide) (fun q45 => ?_) (fun q45 => ?_)
              · skip
                refine X_iconst (v := nI (0)) C (D (110, .iconst 0, 1) (mg 55 rfl)) (by decide) ?_
                exact X_zret C (D (111, .ireturn, 1) (mg 56 rfl)) rfl (have hr : pCl B n (pItm B n p z) = (false, (pDra B n (tE B n (p)) (z)).2.1, (pDra B n (tE B n (p)) (z)).2.2) := (by first | exact pC_n (pIt3 (cT_0.mp (by omega)) (by assumption) (by assumption) (by assumption)) (fun u_ => (hiy41).mpr u_ (by assumption)) | exact pC_3 (pIt3 (cT_0.mp (by omega)) (by assumption) (by assumption) (by assumption)) (fun u_ => absurd (cT_2.mpr u_) (by assumption))); pBr_f hr (xC_f hr (fun q i z1 z2 => by rw [f43 _ _ (by omega) (by omega)]) ⟨(ae42), (be42), (ce42), de42⟩ ate42))
              · skip
                obtain ⟨rre42, roe42⟩ := rce42 ((hiy41).mp q45)
                refine X_aload_n C 0 (D (102, .aload_n 0, 1) (mg 51 rfl)) rfl rfl ?_
                refine X_get (v := .int (H38 (t) 5)) C (t) 5 (by omega) hst rfl rfl (by decide) inX5 fX5_29 rfl (D (103, .getfield 29, 3) (mg 52 rfl)) rfl ?_
                refine X_ti (y := nI (cT (tT B n ((pDra B n (tE B n (p)) (z)).2.1)))) (ce42) ?_
                refine X_iconst (v := nI (2)) C (D (106, .iconst 2, 1) (mg 53 rfl)) (by decide) ?_
                refine X_icmp_eq (tgt := 112) C (D (107, .if_icmp .eq 5, 3) (mg 54 rfl)) (by decide) (fun q46 => ?_) (fun q46 => ?_)
                · skip
                  have q46 : (cT (tT B n ((pDra B n (tE B n (p)) (z)).2.1))) = (2) := by have z := (nI_eq (a := (cT (tT B n ((pDra B n (tE B n (p)) (z)).2.1)))) (b := (2)) (by omega) (by omega)).mp q46; omega
                  refine X_aload_n C 0 (D (112, .aload_n 0, 1) (mg 57 rfl)) rfl rfl ?_
                  refine X_cV (As := []) (st := []) C (post := _) (t) (by omega) hst rfl (cx_X5_advance hw (t := t) (n := n) hX hn (B := B) (p := tE B n ((pDra B n (tE B n (p)) (z)).2.1)) (tE_le (by omega)) H38 G39 (((f43 _ _ (by omega) (by omega))).trans hb) (fun i hi => by rw [f43 _ _ (by omega) (by omega)]; exact hB i hi) (ae42)) kX5_26 (by decide) (by decide) rfl rfl (Nat.le_of_ble_eq_true rfl) (D (113, .invokevirtual 26, 3) (mg 58 rfl)) rfl (fun v49 H47 G48 hv49 => ?_)
                  obtain ⟨rfl, f50, ae51, be51, ce51, de51⟩ := hv49
                  have hle51 : tE B n ((pDra B n (tE B n (p)) (z)).2.1) ≤ n := tE_le (by omega)
                  have hme51 := cT_le (tT_le B n (tE B n ((pDra B n (tE B n (p)) (z)).2.1)))
                  show X k w _ 116 [some (.ref (wA w (t))), some (.int (nI (0))), some (.int (y41))] [] H47 G48
                  refine X_iconst (v := nI (1)) C (D (116, .iconst 1, 1) (mg 59 rfl)) (by decide) ?_
                  exact X_zret C (D (117, .ireturn, 1) (mg 60 rfl)) rfl (have hr : pCl B n (pItm B n p z) = (true, tE B n ((pDra B n (tE B n (p)) (z)).2.1), (pDra B n (tE B n (p)) (z)).2.2) := pC_t (pIt3 (cT_0.mp (by omega)) (by assumption) (by assumption) (by assumption)) ((hiy41).mp (by assumption)) (cT_2.mp (by omega)); pBr_t hr (xC_t hr (fun q i z1 z2 => by rw [f50 _ _ (by omega), f43 _ _ (by omega) (by omega)]) ⟨(ae51), (be51), (ce51), de51⟩ (rC_k (fun q i z1 z2 => f50 _ _ (by omega)) rre42) roe42))
                · skip
                  have q46 : (cT (tT B n ((pDra B n (tE B n (p)) (z)).2.1))) ≠ (2) := by have z : ¬ ((cT (tT B n ((pDra B n (tE B n (p)) (z)).2.1))) = (2)) := fun u => q46 ((nI_eq (a := (cT (tT B n ((pDra B n (tE B n (p)) (z)).2.1)))) (b := (2)) (by omega) (by omega)).mpr u); omega
                  refine X_iconst (v := nI (0)) C (D (110, .iconst 0, 1) (mg 55 rfl)) (by decide) ?_
                  exact X_zret C (D (111, .ireturn, 1) (mg 56 rfl)) rfl (have hr : pCl B n (pItm B n p z) = (false, (pDra B n (tE B n (p)) (z)).2.1, (pDra B n (tE B n (p)) (z)).2.2) := (by first | exact pC_n (pIt3 (cT_0.mp (by omega)) (by assumption) (by assumption) (by assumption)) (fun u_ => (hiy41).mpr u_ (by assumption)) | exact pC_3 (pIt3 (cT_0.mp (by omega)) (by assumption) (by assumption) (by assumption)) (fun u_ => absurd (cT_2.mpr u_) (by assumption))); pBr_f hr (xC_f hr (fun q i z1 z2 => by rw [f43 _ _ (by omega) (by omega)]) ⟨(ae42), (be42), (ce42), de42⟩ (rC_at rre42 roe42)))
          · skip
            have q14 : (isV B n (p) (2)) := bz1.mp q14
            refine X_aload_n C 0 (D (59, .aload_n 0, 1) (mg 30 rfl)) rfl rfl ?_
            refine X_cV (As := []) (st := []) C (post := _) (t) (by omega) hst rfl (cx_X5_takesSay hw (t := t) (n := n) hX hn (B := B) (p := p) (by omega) (z := z) h g (hb) hB ⟨(ht3), (ht4), (ht5), ht6⟩ hrc hok) kX5_74 (by decide) (by decide) rfl rfl (Nat.le_of_ble_eq_true rfl) (D (60, .invokevirtual 74, 3) (mg 31 rfl)) rfl (fun v54 H52 G53 hv54 => ?_)
            obtain ⟨y55, rfl, h01y55, hiy55, f57, ⟨ae56, be56, ce56, de56⟩, ate56, rce56⟩ := hv54
            have hme56 := cT_le (tT_le B n ((pSay B n (tE B n (p)) (z)).2.1))
            show X k w _ 63 [some (.ref (wA w (t))), some (.int (nI (0))), some (.int (nI (0)))] [.int (y55)] H52 G53
            have hl58 : (pSay B n (tE B n (p)) (z)).2.1 ≤ n := (pSay_le _ (tE_le (by omega))).2
            refine X_istore_n (ls' := [some (.ref (wA w (t))), some (.int (nI (0))), some (.int (y55))]) C 2 (D (63, .istore_n 2, 1) (mg 32 rfl)) rfl (Nat.le_of_ble_eq_true rfl) rfl ?_
            refine X_goto (tgt := 98) C (D (64, .goto 34, 3) (mg 33 rfl)) (by decide) ?_
            refine X_iload_n C 2 (D (98, .iload_n 2, 1) (mg 49 rfl)) rfl rfl ?_
            refine X_if_eq (tgt := 110) C (D (99, .ifCond .eq 11, 3) (mg 50 rfl)) (by decide) (fun q59 => ?_) (fun q59 => ?_)
            · skip
              refine X_iconst (v := nI (0)) C (D (110, .iconst 0, 1) (mg 55 rfl)) (by decide) ?_
              exact X_zret C (D (111, .ireturn, 1) (mg 56 rfl)) rfl (have hr : pCl B n (pItm B n p z) = (false, (pSay B n (tE B n (p)) (z)).2.1, (pSay B n (tE B n (p)) (z)).2.2) := (by first | exact pC_n (pIt2 (cT_0.mp (by omega)) (by assumption) (by assumption)) (fun u_ => (hiy55).mpr u_ (by assumption)) | exact pC_3 (pIt2 (cT_0.mp (by omega)) (by assumption) (by assumption)) (fun u_ => absurd (cT_2.mpr u_) (by assumption))); pBr_f hr (xC_f hr (fun q i z1 z2 => by rw [f57 _ _ (by omega) (by omega)]) ⟨(ae56), (be56), (ce56), de56⟩ ate56))
            · skip
              obtain ⟨rre56, roe56⟩ := rce56 ((hiy55).mp q59)
              refine X_aload_n C 0 (D (102, .aload_n 0, 1) (mg 51 rfl)) rfl rfl ?_
              refine X_get (v := .int (H52 (t) 5)) C (t) 5 (by omega) hst rfl rfl (by decide) inX5 fX5_29 rfl (D (103, .getfield 29, 3) (mg 52 rfl)) rfl ?_
              refine X_ti (y := nI (cT (tT B n ((pSay B n (tE B n (p)) (z)).2.1)))) (ce56) ?_
              refine X_iconst (v := nI (2)) C (D (106, .iconst 2, 1) (mg 53 rfl)) (by decide) ?_
              refine X_icmp_eq (tgt := 112) C (D (107, .if_icmp .eq 5, 3) (mg 54 rfl)) (by decide) (fun q60 => ?_) (fun q60 => ?_)
              · skip
                have q60 : (cT (tT B n ((pSay B n (tE B n (p)) (z)).2.1))) = (2) := by have z := (nI_eq (a := (cT (tT B n ((pSay B n (tE B n (p)) (z)).2.1)))) (b := (2)) (by omega) (by omega)).mp q60; omega
                refine X_aload_n C 0 (D (112, .aload_n 0, 1) (mg 57 rfl)) rfl rfl ?_
                refine X_cV (As := []) (st := []) C (post := _) (t) (by omega) hst rfl (cx_X5_advance hw (t := t) (n := n) hX hn (B := B) (p := tE B n ((pSay B n (tE B n (p)) (z)).2.1)) (tE_le (by omega)) H52 G53 (((f57 _ _ (by omega) (by omega))).trans hb) (fun i hi => by rw [f57 _ _ (by omega) (by omega)]; exact hB i hi) (ae56)) kX5_26 (by decide) (by decide) rfl rfl (Nat.le_of_ble_eq_true rfl) (D (113, .invokevirtual 26, 3) (mg 58 rfl)) rfl (fun v63 H61 G62 hv63 => ?_)
                obtain ⟨rfl, f64, ae65, be65, ce65, de65⟩ := hv63
                have hle65 : tE B n ((pSay B n (tE B n (p)) (z)).2.1) ≤ n := tE_le (by omega)
                have hme65 := cT_le (tT_le B n (tE B n ((pSay B n (tE B n (p)) (z)).2.1)))
                show X k w _ 116 [some (.ref (wA w (t))), some (.int (nI (0))), some (.int (y55))] [] H61 G62
                refine X_iconst (v := nI (1)) C (D (116, .iconst 1, 1) (mg 59 rfl)) (by decide) ?_
                exact X_zret C (D (117, .ireturn, 1) (mg 60 rfl)) rfl (have hr : pCl B n (pItm B n p z) = (true, tE B n ((pSay B n (tE B n (p)) (z)).2.1), (pSay B n (tE B n (p)) (z)).2.2) := pC_t (pIt2 (cT_0.mp (by omega)) (by assumption) (by assumption)) ((hiy55).mp (by assumption)) (cT_2.mp (by omega)); pBr_t hr (xC_t hr (fun q i z1 z2 => by rw [f64 _ _ (by omega), f57 _ _ (by omega) (by omega)]) ⟨(ae65), (be65), (ce65), de65⟩ (rC_k (fun q i z1 z2 => f64 _ _ (by omega)) rre56) roe56))
              · skip
                have q60 : (cT (tT B n ((pSay B n (tE B n (p)) (z)).2.1))) ≠ (2) := by have z : ¬ ((cT (tT B n ((pSay B n (tE B n (p)) (z)).2.1))) = (2)) := fun u => q60 ((nI_eq (a := (cT (tT B n ((pSay B n (tE B n (p)) (z)).2.1)))) (b := (2)) (by omega) (by omega)).mpr u); omega
                refine X_iconst (v := nI (0)) C (D (110, .iconst 0, 1) (mg 55 rfl)) (by decide) ?_
                exact X_zret C (D (111, .ireturn, 1) (mg 56 rfl)) rfl (have hr : pCl B n (pItm B n p z) = (false, (pSay B n (tE B n (p)) (z)).2.1, (pSay B n (tE B n (p)) (z)).2.2) := (by first | exact pC_n (pIt2 (cT_0.mp (by omega)) (by assumption) (by assumption)) (fun u_ => (hiy55).mpr u_ (by assumption)) | exact pC_3 (pIt2 (cT_0.mp (by omega)) (by assumption) (by assumption)) (fun u_ => absurd (cT_2.mpr u_) (by assumption))); pBr_f hr (xC_f hr (fun q i z1 z2 => by rw [f57 _ _ (by omega) (by omega)]) ⟨(ae56), (be56), (ce56), de56⟩ (rC_at rre56 roe56)))
        · skip
          have q10 : (isV B n (p) (1)) := bz1.mp q10
          refine X_aload_n C 0 (D (42, .aload_n 0, 1) (mg 22 rfl)) rfl rfl ?_
          refine X_cV (As := []) (st := []) C (post := _) (t) (by omega) hst rfl (cx_X5_takesStony hw (t := t) (n := n) hX hn (B := B) (p := p) (by omega) (z := z) h g (hb) hB ⟨(ht3), (ht4), (ht5), ht6⟩ hrc hok) kX5_69 (by decide) (by decide) rfl rfl (Nat.le_of_ble_eq_true rfl) (D (43, .invokevirtual 69, 3) (mg 23 rfl)) rfl (fun v68 H66 G67 hv68 => ?_)
          obtain ⟨y69, rfl, h01y69, hiy69, f71, ⟨ae70, be70, ce70, de70⟩, ate70, rce70⟩ := hv68
          have hme70 := cT_le (tT_le B n ((pSto B n (tE B n (p)) (z)).2.1))
          show X k w _ 46 [some (.ref (wA w (t))), some (.int (nI (0))), some (.int (nI (0)))] [.int (y69)] H66 G67
          have hl72 : (pSto B n (tE B n (p)) (z)).2.1 ≤ n := (pSto_le _ (tE_le (by omega))).2
          refine X_istore_n (ls' := [some (.ref (wA w (t))), some (.int (nI (0))), some (.int (y69))]) C 2 (D (46, .istore_n 2, 1) (mg 24 rfl)) rfl (Nat.le_of_ble_eq_true rfl) rfl ?_
          refine X_goto (tgt := 98) C (D (47, .goto 51, 3) (mg 25 rfl)) (by decide) ?_
          refine X_iload_n C 2 (D (98, .iload_n 2, 1) (mg 49 rfl)) rfl rfl ?_
          refine X_if_eq (tgt := 110) C (D (99, .ifCond .eq 11, 3) (mg 50 rfl)) (by decide) (fun q73 => ?_) (fun q73 => ?_)
          · skip
            refine X_iconst (v := nI (0)) C (D (110, .iconst 0, 1) (mg 55 rfl)) (by decide) ?_
            exact X_zret C (D (111, .ireturn, 1) (mg 56 rfl)) rfl (have hr : pCl B n (pItm B n p z) = (false, (pSto B n (tE B n (p)) (z)).2.1, (pSto B n (tE B n (p)) (z)).2.2) := (by first | exact pC_n (pIt1 (cT_0.mp (by omega)) (by assumption)) (fun u_ => (hiy69).mpr u_ (by assumption)) | exact pC_3 (pIt1 (cT_0.mp (by omega)) (by assumption)) (fun u_ => absurd (cT_2.mpr u_) (by assumption))); pBr_f hr (xC_f hr (fun q i z1 z2 => by rw [f71 _ _ (by omega) (by omega)]) ⟨(ae70), (be70), (ce70), de70⟩ ate70))
          · skip
            obtain ⟨rre70, roe70⟩ := rce70 ((hiy69).mp q73)
            refine X_aload_n C 0 (D (102, .aload_n 0, 1) (mg 51 rfl)) rfl rfl ?_
            refine X_get (v := .int (H66 (t) 5)) C (t) 5 (by omega) hst rfl rfl (by decide) inX5 fX5_29 rfl (D (103, .getfield 29, 3) (mg 52 rfl)) rfl ?_
            refine X_ti (y := nI (cT (tT B n ((pSto B n (tE B n (p)) (z)).2.1)))) (ce70) ?_
            refine X_iconst (v := nI (2)) C (D (106, .iconst 2, 1) (mg 53 rfl)) (by decide) ?_
            refine X_icmp_eq (tgt := 112) C (D (107, .if_icmp .eq 5, 3) (mg 54 rfl)) (by decide) (fun q74 => ?_) (fun q74 => ?_)
            · skip
              have q74 : (cT (tT B n ((pSto B n (tE B n (p)) (z)).2.1))) = (2) := by have z := (nI_eq (a := (cT (tT B n ((pSto B n (tE B n (p)) (z)).2.1)))) (b := (2)) (by omega) (by omega)).mp q74; omega
              refine X_aload_n C 0 (D (112, .aload_n 0, 1) (mg 57 rfl)) rfl rfl ?_
              refine X_cV (As := []) (st := []) C (post := _) (t) (by omega) hst rfl (cx_X5_advance hw (t := t) (n := n) hX hn (B := B) (p := tE B n ((pSto B n (tE B n (p)) (z)).2.1)) (tE_le (by omega)) H66 G67 (((f71 _ _ (by omega) (by omega))).trans hb) (fun i hi => by rw [f71 _ _ (by omega) (by omega)]; exact hB i hi) (ae70)) kX5_26 (by decide) (by decide) rfl rfl (Nat.le_of_ble_eq_true rfl) (D (113, .invokevirtual 26, 3) (mg 58 rfl)) rfl (fun v77 H75 G76 hv77 => ?_)
              obtain ⟨rfl, f78, ae79, be79, ce79, de79⟩ := hv77
              have hle79 : tE B n ((pSto B n (tE B n (p)) (z)).2.1) ≤ n := tE_le (by omega)
              have hme79 := cT_le (tT_le B n (tE B n ((pSto B n (tE B n (p)) (z)).2.1)))
              show X k w _ 116 [some (.ref (wA w (t))), some (.int (nI (0))), some (.int (y69))] [] H75 G76
              refine X_iconst (v := nI (1)) C (D (116, .iconst 1, 1) (mg 59 rfl)) (by decide) ?_
              exact X_zret C (D (117, .ireturn, 1) (mg 60 rfl)) rfl (have hr : pCl B n (pItm B n p z) = (true, tE B n ((pSto B n (tE B n (p)) (z)).2.1), (pSto B n (tE B n (p)) (z)).2.2) := pC_t (pIt1 (cT_0.mp (by omega)) (by assumption)) ((hiy69).mp (by assumption)) (cT_2.mp (by omega)); pBr_t hr (xC_t hr (fun q i z1 z2 => by rw [f78 _ _ (by omega), f71 _ _ (by omega) (by omega)]) ⟨(ae79), (be79), (ce79), de79⟩ (rC_k (fun q i z1 z2 => f78 _ _ (by omega)) rre70) roe70))
            · skip
              have q74 : (cT (tT B n ((pSto B n (tE B n (p)) (z)).2.1))) ≠ (2) := by have z : ¬ ((cT (tT B n ((pSto B n (tE B n (p)) (z)).2.1))) = (2)) := fun u => q74 ((nI_eq (a := (cT (tT B n ((pSto B n (tE B n (p)) (z)).2.1)))) (b := (2)) (by omega) (by omega)).mpr u); omega
              refine X_iconst (v := nI (0)) C (D (110, .iconst 0, 1) (mg 55 rfl)) (by decide) ?_
              exact X_zret C (D (111, .ireturn, 1) (mg 56 rfl)) rfl (have hr : pCl B n (pItm B n p z) = (false, (pSto B n (tE B n (p)) (z)).2.1, (pSto B n (tE B n (p)) (z)).2.2) := (by first | exact pC_n (pIt1 (cT_0.mp (by omega)) (by assumption)) (fun u_ => (hiy69).mpr u_ (by assumption)) | exact pC_3 (pIt1 (cT_0.mp (by omega)) (by assumption)) (fun u_ => absurd (cT_2.mpr u_) (by assumption))); pBr_f hr (xC_f hr (fun q i z1 z2 => by rw [f71 _ _ (by omega) (by omega)]) ⟨(ae70), (be70), (ce70), de70⟩ (rC_at rre70 roe70)))
      · skip
        exact absurd q6 (by decide)
    · skip
      have q5 : isV B n (p) (0) := Classical.not_not.mp (fun u_ => q5 (bq0.mpr u_))
      refine X_iconst (v := nI (0)) C (D (19, .iconst 0, 1) (mg 10 rfl)) (by decide) ?_
      exact X_zret C (D (20, .ireturn, 1) (mg 11 rfl)) rfl (have hr : pCl B n (pItm B n p z) = (false, p, z) := pC_f (by first | exact pIt0 (fun u_ => absurd (cT_0.mpr u_) (by assumption)) | exact pIn0 (cT_0.mp (by omega)) (by assumption)); pBr_f hr (xC_f hr (fun q i z1 z2 => rfl) ⟨(ht3), (ht4), (ht5), ht6⟩ (rC_at hrc hok)))
theorem pRd_le {B : Nat → Int32} {n : Nat} : ∀ (f it p : Nat) (z : nS), it ≤ p → p ≤ n → (pRd B n f it p z).2.1 ≤ n
  | 0, it, p, z, h1, h2 => Nat.zero_le _
  | f + 1, it, p, z, h1, h2 => by
    by_cases q : tT B n p = 0
    · rw [pRd_e q]; show it ≤ n; omega
    · by_cases q2 : (pCl B n (pItm B n p z)).1 = true
      · have g := pCl_gt (pItm_le z h2) q2
        rw [pRd_s q q2]
        exact pRd_le f (it + 1) _ _ (by omega) g.2
      · rw [pRd_f q q2]
        exact tS_le (pCl_le (pItm_le z h2))
theorem pAll_le {B : Nat → Int32} {n : Nat} : (pAll B n).2.1 ≤ n := by
  unfold pAll
  by_cases q : (pFst B n 0).1 = true
  · rw [if_pos q]
    exact pRd_le _ _ _ _ (pFst_gt (Nat.zero_le _) q) (pFst_le (Nat.zero_le _))
  · rw [if_neg q]
    exact tS_le (pFst_le (Nat.zero_le _))
/-- how far the reading is -/
def rI (B : Nat → Int32) (n t it p : Nat) (h : xI) : Prop := (it = 0 ∧ p = 0) ∨ (1 ≤ it ∧ ∃ (z : nS) (f : Nat), rC h (t + 2) z ∧ nOk z ∧ n < f + p ∧ pRd B n f it p z = pAll B n)
theorem rA_t {r : rT} {k : Nat} {z : nS} (e : r = (true, k, z)) : rA r = nI k := by subst e; rfl
theorem rA_f {r : rT} {k : Nat} {z : nS} (e : r = (false, k, z)) : rA r = (-10 : Int32) - nI k := by subst e; rfl
theorem rI_0 {B : Nat → Int32} {n t it p : Nat} {h : xI} (H : rI B n t it p h) (h0 : it = 0) : p = 0 := by
  rcases H with H | H
  · exact H.2
  · omega
/-- the first ITEM -/
theorem rI_1 {B : Nat → Int32} {n t it p : Nat} {h h' : xI} (H : rI B n t it p h) (h0 : it = 0) (q : (pFst B n p).1 = true) (c : rC h' (t + 2) (pFst B n p).2.2) (o : nOk (pFst B n p).2.2) : rI B n t (it + 1) (pFst B n p).2.1 h' := by
  obtain rfl := rI_0 H h0
  subst h0
  refine Or.inr ⟨by omega, _, n + 1, c, o, by omega, ?_⟩
  unfold pAll
  rw [if_pos q]
theorem rI_1f {B : Nat → Int32} {n t it p : Nat} {h : xI} (H : rI B n t it p h) (h0 : it = 0) (q : ¬ (pFst B n p).1 = true) : pAll B n = (false, tS B n (pFst B n p).2.1, nBeg 0 0) := by
  obtain rfl := rI_0 H h0
  unfold pAll
  rw [if_neg q]
theorem rI_e0 {B : Nat → Int32} {n t it p : Nat} {h : xI} (H : rI B n t it p h) (h0 : it = 0) (q : tT B n p = 0) : pAll B n = (false, tS B n p, nBeg 0 0) := by
  have e : pFst B n p = (false, p, nBeg 0 0) := pFs0 (fun u_ => by have := u_.1; omega)
  have := rI_1f H h0 (by rw [e]; exact fun u_ => by cases u_)
  rw [this, e]
theorem rI_e {B : Nat → Int32} {n t it p : Nat} {h : xI} (hp : p ≤ n) (H : rI B n t it p h) (h0 : ¬ it = 0) (q : tT B n p = 0) : ∃ z, rC h (t + 2) z ∧ nOk z ∧ pAll B n = (true, it, z) := by
  rcases H with H | ⟨-, z, f, c, o, hf, e⟩
  · exact absurd H.1 h0
  · refine ⟨z, c, o, ?_⟩
    rw [← e]
    match f, hf with
    | 0, hf => omega
    | f + 1, _ => exact pRd_e q
/-- what a later ITEM finds -/
theorem rI_z {B : Nat → Int32} {n t it p : Nat} {h : xI} (H : rI B n t it p h) (h0 : ¬ it = 0) : ∃ (z : nS) (f : Nat), rC h (t + 2) z ∧ nOk z ∧ n < f + p ∧ pRd B n f it p z = pAll B n := by
  rcases H with H | ⟨-, H⟩
  · exact absurd H.1 h0
  · exact H
theorem rI_s {B : Nat → Int32} {n t it p f : Nat} {z : nS} {h' : xI} (hp : p ≤ n) (hf : n < f + p) (e : pRd B n f it p z = pAll B n) (q0 : ¬ tT B n p = 0) (q : (pCl B n (pItm B n p z)).1 = true) (c : rC h' (t + 2) (pCl B n (pItm B n p z)).2.2) (o : nOk (pCl B n (pItm B n p z)).2.2) : rI B n t (it + 1) (pCl B n (pItm B n p z)).2.1 h' := by
  have g := pCl_gt (pItm_le z hp) q
  match f, hf, e with
  | 0, hf, e => omega
  | f + 1, hf, e =>
    refine Or.inr ⟨by omega, _, f, c, o, by omega, ?_⟩
    rw [← e, pRd_s q0 q]
theorem rI_sf {B : Nat → Int32} {n it p f : Nat} {z : nS} (hp : p ≤ n) (hf : n < f + p) (e : pRd B n f it p z = pAll B n) (q0 : ¬ tT B n p = 0) (q : ¬ (pCl B n (pItm B n p z)).1 = true) : pAll B n = (false, tS B n (pCl B n (pItm B n p z)).2.1, z) := by
  match f, hf, e with
  | 0, hf, e => omega
  | f + 1, hf, e => rw [← e, pRd_f q0 q]
theorem pCl_lt {B : Nat → Int32} {n p : Nat} {z : nS} (hp : p ≤ n) (q : (pCl B n (pItm B n p z)).1 = true) : p < (pCl B n (pItm B n p z)).2.1 := (pCl_gt (pItm_le z hp) q).1
/-- behind reading: the answer; what may have changed; the nave -/
def xR (B : Nat → Int32) (n t : Nat) (h h' : xI) : Prop := tF t h h' ∧ atOk h' (t + 2) ∧ ((pAll B n).1 = true → rC h' (t + 2) (pAll B n).2.2 ∧ nOk (pAll B n).2.2)
theorem xR_f {B : Nat → Int32} {n t k : Nat} {z : nS} {h h' : xI} (e : pAll B n = (false, k, z)) (f : tF t h h') (a : atOk h' (t + 2)) : xR B n t h h' := ⟨f, a, fun u_ => by rw [e] at u_; cases u_⟩
theorem xR_t {B : Nat → Int32} {n t k : Nat} {z : nS} {h h' : xI} (e : pAll B n = (true, k, z)) (f : tF t h h') (c : rC h' (t + 2) z) (o : nOk z) : xR B n t h h' := ⟨f, rC_at c o, fun u_ => by rw [e]; exact ⟨c, o⟩⟩
def pR (y : Int32) (Q : xI → Prop) : Option Value → xI → xJ → Prop := fun v h' _ => v = some (.int y) ∧ Q h'
set_option maxHeartbeats 4000000 in
set_option maxRecDepth 100000 in
theorem cx_X5_readItems {l : Launch} {w : Kw} (hw : wOk w) {t n : Nat} (hX : shX w t) (hn : n ≤ 150) {B : Nat → Int32} {aK aV : Nat → Nat} {zr : Value} (hs : sOk w aK aV zr) (hz : zr = .null ∨ ∃ ra, zr = .ref ra) (h : xI) (g : xJ) (hb : h t 2 = nI n) (hB : ∀ i, i < n → h (t + 1) i = B i) (hat0 : atOk h (t + 2)) : Ct l w yX5_readItems cX5_readItems 2 (some .int) 6 129 [.ref (wA w (t))] h g (pR (rA (pAll B n)) (xR B n t h)) := by
  refine Ct_of (ls := [some (.ref (wA w (t))), none]) (by decide) hw (Nat.le_of_ble_eq_true rfl) rfl (fun k hkl C => ?_)
  have C : Cx k w cX5_readItems RX5 2 (some .int) 6 129 := C
  have D := dtX5_readItems
  subst hkl
  have hX0 := hX
  obtain ⟨htn, hst, hs1, hN2⟩ := hX
  have hX := hX0
  refine X_iconst (v := nI (0)) C (D (0, .iconst 0, 1) (mg 0 rfl)) (by decide) ?_
  refine X_istore_n (ls' := [some (.ref (wA w (t))), some (.int (nI (0)))]) C 1 (D (1, .istore_n 1, 1) (mg 1 rfl)) rfl (Nat.le_of_ble_eq_true rfl) rfl ?_
  refine X_aload_n C 0 (D (2, .aload_n 0, 1) (mg 2 rfl)) rfl rfl ?_
  refine X_iconst (v := nI (0)) C (D (3, .iconst 0, 1) (mg 3 rfl)) (by decide) ?_
  refine X_putI C (t) 3 tyX5 tyX5_ok nmX5 (by omega) hst rfl rfl (by decide) inX5 fX5_22 rfl rfl (by decide +kernel) (D (4, .putfield 22, 3) (mg 4 rfl)) ?_
  refine X_aload_n C 0 (D (7, .aload_n 0, 1) (mg 5 rfl)) rfl rfl ?_
  refine X_cV (As := []) (st := []) C (post := _) (t) (by omega) hst rfl (cx_X5_advance hw (t := t) (n := n) hX hn (B := B) (p := 0) (by omega) (u2 h (t) 3 (nI (0))) g (((u2_i _ _ _ _ (by omega))).trans hb) (fun i hi => by rw [u2_ne _ _ _ _ (by omega)]; exact hB i hi) ((u2_s _ _ _ _))) kX5_26 (by decide) (by decide) rfl rfl (Nat.le_of_ble_eq_true rfl) (D (8, .invokevirtual 26, 3) (mg 6 rfl)) rfl (fun v3 H1 G2 hv3 => ?_)
  obtain ⟨rfl, f4, ae5, be5, ce5, de5⟩ := hv3
  have hle5 : 0 ≤ n := by omega
  have hme5 := cT_le (tT_le B n (0))
  show X k w _ 11 [some (.ref (wA w (t))), some (.int (nI (0)))] [] H1 G2
  have lp11 : ∀ (nn11 : Nat) (p1 : Nat) (it : Nat) (hp11 : xI) (gp11 : xJ), (it ≤ p1) → (p1 ≤ n) → (tF t h hp11) → (kT B n p1 t hp11) → (atOk hp11 (t + 2)) → (rI B n t it p1 hp11) → 151 - it ≤ nn11 → X k w (Zq k w (pR (rA (pAll B n)) (xR B n t h))) 11 [some (.ref (wA w (t))), some (.int (nI (it)))] [] hp11 gp11 := by
    intro nn11
    induction nn11 with
    | zero => intro p1 it hp11 gp11 hc11_0 hc11_1 hc11_2 hc11_3 hc11_4 hc11_5 hz; exact absurd hz (by omega)
    | succ nn11 ih11 =>
      intro p1 it hp11 gp11 hc11_0 hc11_1 hc11_2 hc11_3 hc11_4 hc11_5 hz11
      obtain ⟨ae6, be6, ce6, de6⟩ := hc11_3
      have hme6 := cT_le (tT_le B n (p1))
      refine X_iload_n C 1 (D (11, .iload_n 1, 1) (mg 7 rfl)) rfl rfl ?_
      refine X_sipush (v := nI (150)) C (D (12, .sipush 150, 3) (mg 8 rfl)) (by decide) ?_
      refine X_icmp_ge (tgt := 56) C (D (15, .if_icmp .ge 41, 3) (mg 9 rfl)) (by decide) (fun q7 => ?_) (fun q7 => ?_)
      · skip
        have q7 : (it) ≥ (150) := by have z := (nI_leI (a := (150)) (b := (it)) (by omega) (by omega)).mp q7; omega
        have htz : tT B n p1 = 0 := tT_n (by omega)
        refine X_iload_n C 1 (D (56, .iload_n 1, 1) (mg 29 rfl)) rfl rfl ?_
        refine X_if_ne (tgt := 70) C (D (57, .ifCond .ne 13, 3) (mg 30 rfl)) (by decide) (fun q8 => ?_) (fun q8 => ?_)
        · skip
          have q8 : (it) ≠ (0) := by have z : ¬ ((it) = (0)) := fun u => q8 ((nI_eq (a := (it)) (b := (0)) (by omega) (by omega)).mpr u); omega
          refine X_iload_n C 1 (D (70, .iload_n 1, 1) (mg 36 rfl)) rfl rfl ?_
          exact X_iret C (D (71, .ireturn, 1) (mg 37 rfl)) (by obtain ⟨z_, c_, o_, hr⟩ := rI_e (by omega) hc11_5 (by omega) htz; exact ⟨by rw [rA_t hr], xR_t hr hc11_2 c_ o_⟩)
        · skip
          have q8 : (it) = (0) := by have z := (nI_eq (a := (it)) (b := (0)) (by omega) (by omega)).mp q8; omega
          refine X_bipush (v := (-10 : Int32)) C (D (60, .bipush (-10), 2) (mg 31 rfl)) (by decide) ?_
          refine X_aload_n C 0 (D (62, .aload_n 0, 1) (mg 32 rfl)) rfl rfl ?_
          refine X_get (v := .int (hp11 (t) 4)) C (t) 4 (by omega) hst rfl rfl (by decide) inX5 fX5_36 rfl (D (63, .getfield 36, 3) (mg 33 rfl)) rfl ?_
          refine X_ti (y := nI (tS B n (p1))) (be6) ?_
          refine X_isub C (D (66, .isub, 1) (mg 34 rfl)) ?_
          refine X_goto (tgt := 71) C (D (67, .goto 4, 3) (mg 35 rfl)) (by decide) ?_
          exact X_iret C (D (71, .ireturn, 1) (mg 37 rfl)) (have hr := rI_e0 hc11_5 (by omega) htz; ⟨by rw [rA_f hr], xR_f hr hc11_2 hc11_4⟩)
      · skip
        have q7 : (it) < (150) := by have z : ¬ ((150) ≤ (it)) := fun u => q7 ((nI_leI (a := (150)) (b := (it)) (by omega) (by omega)).mpr u); omega
        refine X_aload_n C 0 (D (18, .aload_n 0, 1) (mg 10 rfl)) rfl rfl ?_
        refine X_get (v := .int (hp11 (t) 5)) C (t) 5 (by omega) hst rfl rfl (by decide) inX5 fX5_29 rfl (D (19, .getfield 29, 3) (mg 11 rfl)) rfl ?_
        refine X_ti (y := nI (cT (tT B n (p1)))) (ce6) ?_
        refine X_iconst (v := nI (4)) C (D (22, .iconst 4, 1) (mg 12 rfl)) (by decide) ?_
        refine X_icmp_eq (tgt := 56) C (D (23, .if_icmp .eq 33, 3) (mg 13 rfl)) (by decide) (fun q9 => ?_) (fun q9 => ?_)
        · skip
          have q9 : (cT (tT B n (p1))) = (4) := by have z := (nI_eq (a := (cT (tT B n (p1)))) (b := (4)) (by omega) (by omega)).mp q9; omega
          have htz : tT B n p1 = 0 := (cT_4 (tT_le B n p1)).mp (by omega)
          refine X_iload_n C 1 (D (56, .iload_n 1, 1) (mg 29 rfl)) rfl rfl ?_
          refine X_if_ne (tgt := 70) C (D (57, .ifCond .ne 13, 3) (mg 30 rfl)) (by decide) (fun q10 => ?_) (fun q10 => ?_)
          · skip
            have q10 : (it) ≠ (0) := by have z : ¬ ((it) = (0)) := fun u => q10 ((nI_eq (a := (it)) (b := (0)) (by omega) (by omega)).mpr u); omega
            refine X_iload_n C 1 (D (70, .iload_n 1, 1) (mg 36 rfl)) rfl rfl ?_
            exact X_iret C (D (71, .ireturn, 1) (mg 37 rfl)) (by obtain ⟨z_, c_, o_, hr⟩ := rI_e (by omega) hc11_5 (by omega) htz; exact ⟨by rw [rA_t hr], xR_t hr hc11_2 c_ o_⟩)
          · skip
            have q10 : (it) = (0) := by have z := (nI_eq (a := (it)) (b := (0)) (by omega) (by omega)).mp q10; omega
            refine X_bipush (v := (-10 : Int32)) C (D (60, .bipush (-10), 2) (mg 31 rfl)) (by decide) ?_
            refine X_aload_n C 0 (D (62, .aload_n 0, 1) (mg 32 rfl)) rfl rfl ?_
            refine X_get (v := .int (hp11 (t) 4)) C (t) 4 (by omega) hst rfl rfl (by decide) inX5 fX5_36 rfl (D (63, .getfield 36, 3) (mg 33 rfl)) rfl ?_
            refine X_ti (y := nI (tS B n (p1))) (be6) ?_
            refine X_isub C (D (66, .isub, 1) (mg 34 rfl)) ?_
            refine X_goto (tgt := 71) C (D (67, .goto 4, 3) (mg 35 rfl)) (by decide) ?_
            exact X_iret C (D (71, .ireturn, 1) (mg 37 rfl)) (have hr := rI_e0 hc11_5 (by omega) htz; ⟨by rw [rA_f hr], xR_f hr hc11_2 hc11_4⟩)
        · skip
          have q9 : (cT (tT B n (p1))) ≠ (4) := by have z : ¬ ((cT (tT B n (p1))) = (4)) := fun u => q9 ((nI_eq (a := (cT (tT B n (p1)))) (b := (4)) (by omega) (by omega)).mpr u); omega
          have htn0 : ¬ tT B n p1 = 0 := fun u_ => absurd ((cT_4 (tT_le B n p1)).mpr u_) (by omega)
          refine X_aload_n C 0 (D (26, .aload_n 0, 1) (mg 14 rfl)) rfl rfl ?_
          refine X_iload_n C 1 (D (27, .iload_n 1, 1) (mg 15 rfl)) rfl rfl ?_
          refine X_if_ne (tgt := 35) C (D (28, .ifCond .ne 7, 3) (mg 16 rfl)) (by decide) (fun q11 => ?_) (fun q11 => ?_)
          · skip
            have q11 : (it) ≠ (0) := by have z : ¬ ((it) = (0)) := fun u => q11 ((nI_eq (a := (it)) (b := (0)) (by omega) (by omega)).mpr u); omega
            obtain ⟨z_, f_, hrc_, hok_, hf_, he_⟩ := rI_z hc11_5 (by omega)
            refine X_iconst (v := nI (0)) C (D (35, .iconst 0, 1) (mg 19 rfl)) (by decide) ?_
            refine X_cV (As := [.int (nI (0))]) (st := []) C (post := _) (t) (by omega) hst rfl (cx_X5_takesItem0 hw (t := t) (n := n) hX hn (B := B) hs hz (p := p1) (by omega) (z := z_) hp11 gp11 (((hc11_2 _ _ (by omega) (by omega)).trans hb)) (fun i hi => (hc11_2 _ _ (by omega) (by omega)).trans (hB i hi)) ⟨(ae6), (be6), (ce6), de6⟩ hrc_ hok_) kX5_32 (by decide) (by decide) rfl rfl (Nat.le_of_ble_eq_true rfl) (D (36, .invokevirtual 32, 3) (mg 20 rfl)) rfl (fun v14 H12 G13 hv14 => ?_)
            obtain ⟨y15, rfl, h01y15, hiy15, f17, ⟨ae16, be16, ce16, de16⟩, ate16, rce16⟩ := hv14
            have hme16 := cT_le (tT_le B n ((pCl B n (pItm B n (p1) (z_))).2.1))
            show X k w _ 39 [some (.ref (wA w (t))), some (.int (nI (it)))] [.int (y15)] H12 G13
            have hl18 : (pCl B n (pItm B n (p1) (z_))).2.1 ≤ n := pCl_le (pItm_le _ (by omega))
            refine X_if_ne (tgt := 50) C (D (39, .ifCond .ne 11, 3) (mg 21 rfl)) (by decide) (fun q19 => ?_) (fun q19 => ?_)
            · skip
              obtain ⟨rre16, roe16⟩ := rce16 ((hiy15).mp q19)
              have hgt_ : p1 < (pCl B n (pItm B n (p1) (z_))).2.1 := pCl_lt (by omega) ((hiy15).mp q19)
              refine X_iinc (v := nI (it + 1)) (ls' := [some (.ref (wA w (t))), some (.int (nI (it + 1)))]) C (D (50, .iinc 1 1, 3) (mg 27 rfl)) rfl (nI_add (it) 1) rfl ?_
              refine X_goto (tgt := 11) C (D (53, .goto (-42), 3) (mg 28 rfl)) (by decide) ?_
              refine X_eq (ls' := [some (.ref (wA w (t))), some (.int (nI (it + 1)))]) (st' := []) (h' := H12) (g' := G13) rfl rfl rfl rfl ?_
              exact ih11 ((pCl B n (pItm B n (p1) (z_))).2.1) (it + 1) (H12) (G13) (by omega) (by omega) (fun q i z1 z2 => by rw [f17 _ _ (by omega) (by omega)]; exact hc11_2 q i z1 z2) ⟨(ae16), (be16), (ce16), de16⟩ (rC_at rre16 roe16) (rI_s (by omega) hf_ he_ htn0 ((hiy15).mp (by assumption)) rre16 roe16) (by omega)
            · skip
              refine X_bipush (v := (-10 : Int32)) C (D (42, .bipush (-10), 2) (mg 22 rfl)) (by decide) ?_
              refine X_aload_n C 0 (D (44, .aload_n 0, 1) (mg 23 rfl)) rfl rfl ?_
              refine X_get (v := .int (H12 (t) 4)) C (t) 4 (by omega) hst rfl rfl (by decide) inX5 fX5_36 rfl (D (45, .getfield 36, 3) (mg 24 rfl)) rfl ?_
              refine X_ti (y := nI (tS B n ((pCl B n (pItm B n (p1) (z_))).2.1))) (be16) ?_
              refine X_isub C (D (48, .isub, 1) (mg 25 rfl)) ?_
              exact X_iret C (D (49, .ireturn, 1) (mg 26 rfl)) (have hr := rI_sf (by omega) hf_ he_ htn0 (fun u_ => (hiy15).mpr u_ (by assumption)); ⟨by rw [rA_f hr], xR_f hr (fun q i z1 z2 => by rw [f17 _ _ (by omega) (by omega)]; exact hc11_2 q i z1 z2) ate16⟩)
          · skip
            have q11 : (it) = (0) := by have z := (nI_eq (a := (it)) (b := (0)) (by omega) (by omega)).mp q11; omega
            refine X_iconst (v := nI (1)) C (D (31, .iconst 1, 1) (mg 17 rfl)) (by decide) ?_
            refine X_goto (tgt := 36) C (D (32, .goto 4, 3) (mg 18 rfl)) (by decide) ?_
            refine X_cV (As := [.int (nI (1))]) (st := []) C (post := _) (t) (by omega) hst rfl (cx_X5_takesItem1 hw (t := t) (n := n) hX hn (B := B) hs hz (p := p1) (by omega) hp11 gp11 (((hc11_2 _ _ (by omega) (by omega)).trans hb)) (fun i hi => (hc11_2 _ _ (by omega) (by omega)).trans (hB i hi)) ⟨(ae6), (be6), (ce6), de6⟩ hc11_4) kX5_32 (by decide) (by decide) rfl rfl (Nat.le_of_ble_eq_true rfl) (D (36, .invokevirtual 32, 3) (mg 20 rfl)) rfl (fun v22 H20 G21 hv22 => ?_)
            obtain ⟨y23, rfl, h01y23, hiy23, f25, ⟨ae24, be24, ce24, de24⟩, ate24, rce24⟩ := hv22
            have hme24 := cT_le (tT_le B n ((pFst B n (p1)).2.1))
            show X k w _ 39 [some (.ref (wA w (t))), some (.int (nI (it)))] [.int (y23)] H20 G21
            have hl26 : (pFst B n (p1)).2.1 ≤ n := pFst_le (by omega)
            refine X_if_ne (tgt := 50) C (D (39, .ifCond .ne 11, 3) (mg 21 rfl)) (by decide) (fun q27 => ?_) (fun q27 => ?_)
            · skip
              obtain ⟨rre24, roe24⟩ := rce24 ((hiy23).mp q27)
              have hgt_ : p1 < (pFst B n (p1)).2.1 := pFst_gt (by omega) ((hiy23).mp q27)
              refine X_iinc (v := nI (it + 1)) (ls' := [some (.ref (wA w (t))), some (.int (nI (it + 1)))]) C (D (50, .iinc 1 1, 3) (mg 27 rfl)) rfl (nI_add (it) 1) rfl ?_
              refine X_goto (tgt := 11) C (D (53, .goto (-42), 3) (mg 28 rfl)) (by decide) ?_
              refine X_eq (ls' := [some (.ref (wA w (t))), some (.int (nI (it + 1)))]) (st' := []) (h' := H20) (g' := G21) rfl rfl rfl rfl ?_
              exact ih11 ((pFst B n (p1)).2.1) (it + 1) (H20) (G21) (by omega) (by omega) (fun q i z1 z2 => by rw [f25 _ _ (by omega) (by omega)]; exact hc11_2 q i z1 z2) ⟨(ae24), (be24), (ce24), de24⟩ (rC_at rre24 roe24) (rI_1 hc11_5 (by omega) ((hiy23).mp (by assumption)) rre24 roe24) (by omega)
            · skip
              refine X_bipush (v := (-10 : Int32)) C (D (42, .bipush (-10), 2) (mg 22 rfl)) (by decide) ?_
              refine X_aload_n C 0 (D (44, .aload_n 0, 1) (mg 23 rfl)) rfl rfl ?_
              refine X_get (v := .int (H20 (t) 4)) C (t) 4 (by omega) hst rfl rfl (by decide) inX5 fX5_36 rfl (D (45, .getfield 36, 3) (mg 24 rfl)) rfl ?_
              refine X_ti (y := nI (tS B n ((pFst B n (p1)).2.1))) (be24) ?_
              refine X_isub C (D (48, .isub, 1) (mg 25 rfl)) ?_
              exact X_iret C (D (49, .ireturn, 1) (mg 26 rfl)) (have hr := rI_1f hc11_5 (by omega) (fun u_ => (hiy23).mpr u_ (by assumption)); ⟨by rw [rA_f hr], xR_f hr (fun q i z1 z2 => by rw [f25 _ _ (by omega) (by omega)]; exact hc11_2 q i z1 z2) ate24⟩)
  refine X_eq (ls' := [some (.ref (wA w (t))), some (.int (nI (0)))]) (st' := []) (h' := H1) (g' := G2) rfl rfl rfl rfl ?_
  exact lp11 _ (0) (0) (H1) (G2) (by omega) (by omega) (fun q i z1 z2 => by rw [f4 _ _ (by omega), u2_ne _ _ _ _ (by omega)]) ⟨(ae5), (be5), (ce5), de5⟩ (at_k (fun i => by rw [f4 _ _ (by omega), u2_ne _ _ _ _ (by omega)]) hat0) (Or.inl ⟨rfl, rfl⟩) (Nat.le_refl _)
theorem rA_neg {B : Nat → Int32} {n : Nat} (hn : n ≤ 150) (q : rA (pAll B n) < 0) : ¬ (pAll B n).1 = true := fun u_ => by
  have e : rA (pAll B n) = nI (pAll B n).2.1 := if_pos u_
  have l := pAll_le (B := B) (n := n)
  rw [e] at q
  exact nI_pos (by omega) q
theorem rA_pos {B : Nat → Int32} {n : Nat} (hn : n ≤ 150) (q : ¬ rA (pAll B n) < 0) : (pAll B n).1 = true := by
  refine Classical.byContradiction (fun u_ => q ?_)
  have e : rA (pAll B n) = (-10 : Int32) - nI (pAll B n).2.1 := if_neg u_
  have l := pAll_le (B := B) (n := n)
  rw [e, Int32.lt_iff_toInt_lt]
  have e2 : ((-10 : Int32) - nI (pAll B n).2.1) = -(nI (10 + (pAll B n).2.1)) := by
    rw [← nI_add, show (-10 : Int32) = -(nI 10) from by decide, Int32.neg_add, Int32.sub_eq_add_neg]
  rw [e2, Int32.toInt_neg, nI_toInt (by omega)]
  rw [show (0 : Int32).toInt = 0 from by decide]
  rw [Int.bmod_eq_of_le (by omega) (by omega)]
  omega
/-- what read leaves: ok or not -/
def xO (r : rT) (x : Nat) (h h' : xI) : Prop := rF x h h' ∧ cOk h' x ∧ (r.1 = true → rC h' (x + 2) r.2.2 ∧ nOk r.2.2 ∧ h' (x + 1) 4 = nI 0 ∧ h' (x + 1) 5 = nI 0) ∧ (¬ r.1 = true → ∀ q i, x + 1 ≤ q → q ≤ x + 8 → h' q i = h q i)
theorem tF_w {t n : Nat} {h h' : xI} {p s0 : Nat} (a : tF t h h') : True := trivial
theorem rd_ax {x : Nat} {h h' : xI} (hI : cOk h x) (w1 : tF (x + 33) h h') (w3 : atOk h' (x + 35)) : rF x h h' ∧ cOk h' x := by
  obtain ⟨b1, b2, b3, ⟨n', hn', e5⟩, -⟩ := hI
  refine ⟨fun q i z1 z2 z3 => w1 q i z2 (by omega), tOk_k (fun q i z1 z2 => w1 q i (by omega) (by omega)) b1, tOk_k (fun q i z1 z2 => w1 q i (by omega) (by omega)) b2, tOk_k (fun q i z1 z2 => w1 q i (by omega) (by omega)) b3, ⟨n', hn', ?_⟩, w3⟩
  rw [w1 _ _ (by omega) (by omega)]; exact e5
theorem xO_f {B : Nat → Int32} {n x : Nat} {h h' : xI} (hI : cOk h x) (H : xR B n (x + 33) h h') (q : ¬ (pAll B n).1 = true) : xO (pAll B n) x h h' := by
  obtain ⟨w1, w2, -⟩ := H
  obtain ⟨a, b⟩ := rd_ax hI w1 w2
  exact ⟨a, b, fun u_ => absurd u_ q, fun _ q i z1 z2 => w1 q i (by omega) (by omega)⟩
theorem cc_rC {h : xI} {n o : Nat} {z : nS} (hn : o + 2 < n ∨ n + 2 < o) (H : rC h o z) : rC (ccH h n o) n z := by
  obtain ⟨a, b, d, e⟩ := H
  refine ⟨?_, ?_, fun c hc => ?_, fun c hc => ?_⟩
  · unfold ccH cc2 cc1
    rw [u2_ne _ _ _ _ (by omega), u2_ne _ _ _ _ (by omega), u2_s]
    unfold cc0
    rw [cpS_ne _ _ _ _ _ _ (by omega), cpS_ne _ _ _ _ _ _ (by omega)]; exact a
  · rw [ccH_at _ _ _ (by omega)]; exact b
  · unfold ccH cc2 cc1 cc0
    rw [u2_ne _ _ _ _ (by omega), u2_ne _ _ _ _ (by omega), u2_ne _ _ _ _ (by omega), cpS_ne _ _ _ _ _ _ (by omega), cpS_at _ _ _ _ _ _ ⟨rfl, by omega, by omega⟩]; exact d c hc
  · unfold ccH cc2 cc1 cc0
    rw [u2_ne _ _ _ _ (by omega), u2_ne _ _ _ _ (by omega), u2_ne _ _ _ _ (by omega), cpS_at _ _ _ _ _ _ ⟨rfl, by omega, by omega⟩, cpS_ne _ _ _ _ _ _ (by omega)]; exact e c hc
theorem xO_t {B : Nat → Int32} {n x : Nat} {h h' : xI} (hI : cOk h x) (H : xR B n (x + 33) h h') (q : (pAll B n).1 = true) : xO (pAll B n) x h (dnH (ccH h' (x + 2) (x + 35)) (x + 1)) := by
  obtain ⟨w1, w2, w3⟩ := H
  obtain ⟨a1, b0⟩ := rd_ax hI w1 w2
  obtain ⟨b1, b2, b3, ⟨n', hn', e5⟩, ⟨c6, hc6, e6⟩⟩ := b0
  obtain ⟨c, o⟩ := w3 q
  have fr : ∀ q i, (q ≤ x ∨ x + 6 < q) → dnH (ccH h' (x + 2) (x + 35)) (x + 1) q i = h' q i := fun q i z => by
    rw [dnH_ne _ _ (by omega), ccH_ne _ _ _ (by omega)]
  refine ⟨fun q i z1 z2 z3 => (fr q i z1).trans (a1 q i z1 z2 z3), ⟨dnH_ok ⟨c6, hc6, ?_⟩ (paOk_k (fun q i z => ccH_ne _ _ _ (by omega)) b1.2.1), tOk_k (fun q i z1 z2 => fr q i (by omega)) b2, tOk_k (fun q i z1 z2 => fr q i (by omega)) b3, ⟨n', hn', by rw [fr _ _ (by omega)]; exact e5⟩, ⟨c6, hc6, by rw [fr _ _ (by omega)]; exact e6⟩⟩, fun _ => ⟨rC_k (fun q i z1 z2 => dnH_ne _ _ (by omega)) (cc_rC (by omega) c), o, ?_, ?_⟩, fun u_ => absurd q u_⟩
  · rw [ccH_at _ _ _ (by omega)]; exact e6
  · unfold dnH; rw [u2_ne _ _ _ _ (by omega), u2_s]
  · unfold dnH; rw [u2_s]
set_option maxHeartbeats 4000000 in
set_option maxRecDepth 100000 in
theorem cx_X7_read {l : Launch} {w : Kw} (hw : wOk w) {x : Nat} (hC : shC w x) {aK aV : Nat → Nat} {zr : Value} (hs : sOk w aK aV zr) (hz : zr = .null ∨ ∃ ra, zr = .ref ra) {B : Nat → Int32} {nt : Nat} (hnt : nt ≤ 150) (h : xI) (g : xJ) (hI : cOk h x) (htx : h (x + 33) 2 = nI nt) (hB : ∀ i, i < nt → h (x + 34) i = B i) : Ct l w yX7_read cX7_read 2 (some .int) 7 150 [.ref (wA w (x))] h g (pR (rA (pAll B nt)) (xO (pAll B nt) x h)) := by
  refine Ct_of (ls := [some (.ref (wA w (x))), none]) (by decide) hw (Nat.le_of_ble_eq_true rfl) rfl (fun k hkl C => ?_)
  have C : Cx k w cX7_read RX7 2 (some .int) 7 150 := C
  have D := dtX7_read
  subst hkl
  have hC0 := hC
  obtain ⟨hxn, hsx, hT, hsi, hTa, hTb, hsk, hNs, hY, hX, hsv⟩ := hC
  have hY2 := hY.1
  have hX2 := hX.1
  refine X_aload_n C 0 (D (0, .aload_n 0, 1) (mg 0 rfl)) rfl rfl ?_
  refine X_get (v := .ref (wA w (x + 33))) C (x) 5 (by omega) hsx rfl rfl (by decide) inX7 fX7_41 rfl (D (1, .getfield 41, 3) (mg 1 rfl)) rfl ?_
  refine X_cV (As := []) (st := []) C (post := _) (x + 33) (by omega) hX.2.1 rfl (cx_X5_readItems hw (t := x + 33) (n := nt) hX hnt (B := B) hs hz h g htx hB hI.2.2.2.2) kX7_97 (by decide) (by decide) rfl rfl (Nat.le_of_ble_eq_true rfl) (D (4, .invokevirtual 97, 3) (mg 2 rfl)) rfl (fun v3 H1 G2 hv3 => ?_)
  obtain ⟨rfl, hwr⟩ := hv3
  show X k w _ 7 [some (.ref (wA w (x))), none] [.int (rA (pAll B nt))] H1 G2
  refine X_istore_n (ls' := [some (.ref (wA w (x))), some (.int (rA (pAll B nt)))]) C 1 (D (7, .istore_n 1, 1) (mg 3 rfl)) rfl (Nat.le_of_ble_eq_true rfl) rfl ?_
  refine X_iload_n C 1 (D (8, .iload_n 1, 1) (mg 4 rfl)) rfl rfl ?_
  refine X_if_lt (tgt := 36) C (D (9, .ifCond .lt 27, 3) (mg 5 rfl)) (by decide) (fun q4 => ?_) (fun q4 => ?_)
  · skip
    refine X_iload_n C 1 (D (36, .iload_n 1, 1) (mg 16 rfl)) rfl rfl ?_
    exact X_iret C (D (37, .ireturn, 1) (mg 17 rfl)) ⟨rfl, xO_f hI hwr (rA_neg hnt (by assumption))⟩
  · skip
    refine X_aload_n C 0 (D (12, .aload_n 0, 1) (mg 6 rfl)) rfl rfl ?_
    refine X_get (v := .ref (wA w (x + 1))) C (x) 0 (by omega) hsx rfl rfl (by decide) inX7 fX7_10 rfl (D (13, .getfield 10, 3) (mg 7 rfl)) rfl ?_
    refine X_get (v := .ref (wA w (x + 2))) C (x + 1) 0 (by omega) hT.2.1 rfl rfl (by decide) inX4 fX7_61 rfl (D (16, .getfield 61, 3) (mg 8 rfl)) rfl ?_
    refine X_aload_n C 0 (D (19, .aload_n 0, 1) (mg 9 rfl)) rfl rfl ?_
    refine X_get (v := .ref (wA w (x + 33))) C (x) 5 (by omega) hsx rfl rfl (by decide) inX7 fX7_41 rfl (D (20, .getfield 41, 3) (mg 10 rfl)) rfl ?_
    refine X_get (v := .ref (wA w (x + 35))) C (x + 33) 1 (by omega) hX.2.1 rfl rfl (by decide) inX5 fX7_100 rfl (D (23, .getfield 100, 3) (mg 11 rfl)) rfl ?_
    refine X_cV (As := [.ref (wA w (x + 35))]) (st := []) C (post := _) (x + 2) (by omega) hT.2.2.1.2.1 rfl (ct_X1_copyFrom hw (n := x + 2) hT.2.2.1 (o := x + 35) hX.2.2.2 H1 G2) kX7_101 (by decide) (by decide) rfl rfl (Nat.le_of_ble_eq_true rfl) (D (26, .invokevirtual 101, 3) (mg 12 rfl)) rfl (fun v7 H5 G6 hv7 => ?_)
    obtain ⟨rfl, rfl, rfl⟩ := hv7
    show X k w _ 29 [some (.ref (wA w (x))), some (.int (rA (pAll B nt)))] [] (ccH H1 (x + 2) (x + 35)) G2
    refine X_aload_n C 0 (D (29, .aload_n 0, 1) (mg 13 rfl)) rfl rfl ?_
    refine X_get (v := .ref (wA w (x + 1))) C (x) 0 (by omega) hsx rfl rfl (by decide) inX7 fX7_10 rfl (D (30, .getfield 10, 3) (mg 14 rfl)) rfl ?_
    refine X_cV (As := []) (st := []) C (post := _) (x + 1) (by omega) hT.2.1 rfl (ct_X4_dropNotes hw (t := x + 1) hT  (ccH H1 (x + 2) (x + 35)) G2) kX7_71 (by decide) (by decide) rfl rfl (Nat.le_of_ble_eq_true rfl) (D (33, .invokevirtual 71, 3) (mg 15 rfl)) rfl (fun v10 H8 G9 hv10 => ?_)
    obtain ⟨rfl, rfl, rfl⟩ := hv10
    show X k w _ 36 [some (.ref (wA w (x))), some (.int (rA (pAll B nt)))] [] (dnH (ccH H1 (x + 2) (x + 35)) (x + 1)) G2
    refine X_iload_n C 1 (D (36, .iload_n 1, 1) (mg 16 rfl)) rfl rfl ?_
    exact X_iret C (D (37, .ireturn, 1) (mg 17 rfl)) ⟨rfl, xO_t hI hwr (rA_pos hnt (by assumption))⟩
