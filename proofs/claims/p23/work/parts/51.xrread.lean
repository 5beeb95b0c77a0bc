/-! PHASE 2, THE REFERENCE: ITEMs and read, exact -/
def pD3 (B : Nat → Int32) (n p : Nat) (z : nS) : rT := if (pDra B n p z).1 = true then (if tT B n (pDra B n p z).2.1 = 3 then (true, (pDra B n p z).2.1, (pDra B n p z).2.2) else (false, (pDra B n p z).2.1, (pDra B n p z).2.2)) else (false, (pDra B n p z).2.1, (pDra B n p z).2.2)
theorem d3_t {B : Nat → Int32} {n p P : Nat} {z y : nS} (e : pDra B n p z = (true, P, y)) (h : tT B n P = 3) : pD3 B n p z = (true, P, y) := by unfold pD3; rw [e]; exact (if_pos rfl).trans (if_pos h)
theorem d3_n {B : Nat → Int32} {n p P : Nat} {z y : nS} (e : pDra B n p z = (true, P, y)) (h : ¬ tT B n P = 3) : pD3 B n p z = (false, P, y) := by unfold pD3; rw [e]; exact (if_pos rfl).trans (if_neg h)
theorem d3_f {B : Nat → Int32} {n p P : Nat} {z y : nS} (e : pDra B n p z = (false, P, y)) : pD3 B n p z = (false, P, y) := by unfold pD3; rw [e]; exact if_neg (fun u_ => by cases u_)
theorem d3_p {B : Nat → Int32} {n p : Nat} {z : nS} : (pD3 B n p z).2.1 = (pDra B n p z).2.1 := by
  unfold pD3
  by_cases q : (pDra B n p z).1 = true
  · rw [if_pos q]
    by_cases q2 : tT B n (pDra B n p z).2.1 = 3
    · rw [if_pos q2]
    · rw [if_neg q2]
  · rw [if_neg q]
theorem d3_c {B : Nat → Int32} {n p : Nat} {z : nS} : pCl B n (pD3 B n p z) = pCl B n (pDra B n p z) := by
  by_cases q : (pDra B n p z).1 = true
  · by_cases q2 : tT B n (pDra B n p z).2.1 = 3
    · have e : pD3 B n p z = (true, (pDra B n p z).2.1, (pDra B n p z).2.2) := by unfold pD3; rw [if_pos q, if_pos q2]
      rw [pCl_t q q2, e]; exact pCl_t rfl q2
    · have e : pD3 B n p z = (false, (pDra B n p z).2.1, (pDra B n p z).2.2) := by unfold pD3; rw [if_pos q, if_neg q2]
      rw [pCl_f (fun u_ => q2 u_.2), e]; exact pCl_f (fun u_ => by cases u_.1)
  · have e : pD3 B n p z = (false, (pDra B n p z).2.1, (pDra B n p z).2.2) := by unfold pD3; rw [if_neg q]
    rw [pCl_f (fun u_ => q u_.1), e]; exact pCl_f (fun u_ => by cases u_.1)
/-- an ITEM as the reference takes it: a drag looks for its ; itself -/
def pItM (B : Nat → Int32) (n p : Nat) (z : nS) : rT := if isW B n p 1 then pSto B n (tE B n p) z else if isW B n p 2 then pSay B n (tE B n p) z else if isW B n p 3 then pD3 B n (tE B n p) z else if isW B n p 4 then pWee B n (tE B n p) z else (false, p, z)
theorem pItM_c {B : Nat → Int32} {n p : Nat} {z : nS} : pCl B n (pItM B n p z) = pCl B n (pItm B n p z) := by
  unfold pItM pItm
  by_cases q1 : isW B n p 1
  · rw [if_pos q1, if_pos q1]
  · rw [if_neg q1, if_neg q1]
    by_cases q2 : isW B n p 2
    · rw [if_pos q2, if_pos q2]
    · rw [if_neg q2, if_neg q2]
      by_cases q3 : isW B n p 3
      · rw [if_pos q3, if_pos q3]; exact d3_c
      · rw [if_neg q3, if_neg q3]
theorem pItM_le {B : Nat → Int32} {n p : Nat} (z : nS) (h : p ≤ n) : rLe n p (pItM B n p z) := by
  have a1 := tE_ge B n p; have a2 : tE B n p ≤ n := tE_le h
  have T : ∀ r : rT, rLe n (tE B n p) r → rLe n p r := fun r H => ⟨Nat.le_trans a1 H.1, H.2⟩
  unfold pItM
  split
  · exact T _ (pSto_le z a2)
  · split
    · exact T _ (pSay_le z a2)
    · split
      · have := pDra_le (B := B) z a2
        exact T _ ⟨by rw [d3_p]; exact this.1, by rw [d3_p]; exact this.2⟩
      · split
        · exact T _ (pWee_le z a2)
        · exact ⟨Nat.le_refl _, h⟩
theorem pD3_le {B : Nat → Int32} {n p : Nat} (z : nS) (h : p ≤ n) : rLe n p (pD3 B n p z) := by
  have := pDra_le (B := B) z h
  exact ⟨by rw [d3_p]; exact this.1, by rw [d3_p]; exact this.2⟩
theorem isW_5 {B : Nat → Int32} {n p : Nat} (h : isW B n p 4) : p + 5 ≤ tE B n p := by
  have e : tE B n p - tS B n p = 5 := h.2.1
  have g : p ≤ tS B n p := tS_ge
  omega
theorem bgH_29 (h : xI) (Q : Nat) (kd c : Int32) : bgH h Q kd c Q 29 = nI 0 := by
  unfold bgH
  rw [u2_ne _ _ _ _ (by omega), u2_ne _ _ _ _ (by omega)]
  unfold mp
  rw [if_pos (by omega)]
  rfl
theorem bs_al {j i : Nat} (hj : j < 25) (hi : i < 4) : bsA j (nI i) = (if bsN j i < 25 then nI (bsN j i) else (-1 : Int32)) := bs_all j hj i hi
set_option maxHeartbeats 4000000 in
set_option maxRecDepth 100000 in
theorem cx_X8_takesStony {l : Launch} {w : Kw} (hw : wOk w) {m : Nat} (hM : shM w m) {B : Nat → Int32} {n p : Nat} (hn : n ≤ 150) (hp : p ≤ n) {z : nS} (h : xI) (g : xJ) (hb : h m 11 = nI n) (hB : ∀ i, i < n → h (m + 9) i = B i) (hk : kM B n p m h) (hrc : rM h (m + 10) z) (hok : nOk z) (hao : aOk h m) (hwb : wB h (m + 10) p) : Ct l w yX8_takesStony cX8_takesStony 1 (some .boolean) 5 112 [.ref (wA w (m))] h g (pBr (pSto B n (tE B n (p)) z) (xM B n m h (pSto B n (tE B n (p)) z))) := by
  refine Ct_of (ls := [some (.ref (wA w (m)))]) (by decide) hw (Nat.le_of_ble_eq_true rfl) rfl (fun k hkl C => ?_)
  have C : Cx k w cX8_takesStony RX8 1 (some .boolean) 5 112 := C
  have D := dtX8_takesStony
  subst hkl
  have hM0 := hM
  obtain ⟨hm, hsm, hs1, hs2, hs3, hs4, hs5, hs6, hs7, hs8, hs9, hs10, hs11⟩ := hM
  have hM := hM0
  obtain ⟨ht12, ht13, ht14, ht15⟩ := hk
  have hle0 : tE B n p ≤ n := tE_le hp
  have hse0 := tSE B n p
  have hty0 := tT_le B n p
  have hao0 := hao
  obtain ⟨ao0, ao1, ao2, c0, hc0, ao28⟩ := hao
  have hao := hao0
  have hge0 := tE_ge B n p
  have hge1 := tE_ge B n (tE B n p)
  have hge2 := tE_ge B n (tE B n (tE B n p))
  have ha0 := hok.2.1
  refine X_aload_n C 0 (D (0, .aload_n 0, 1) (mg 0 rfl)) rfl rfl ?_
  refine X_cV (As := []) (st := []) C (post := _) (m) (by omega) hsm rfl (cx_X8_goBehind hw hM (B := B) (n := n) (p := p) hn (by omega) h g (hb) hB ⟨(ht12), (ht13), (ht14), ht15⟩) kX8_271 (by decide) (by decide) rfl rfl (Nat.le_of_ble_eq_true rfl) (D (1, .invokevirtual 271, 3) (mg 1 rfl)) rfl (fun v3 H1 G2 hv3 => ?_)
  obtain ⟨rfl, f4, ae5, be5, ce5, de5⟩ := hv3
  have hpe5 : tE B n (p) ≤ n := by omega
  have hle5 : tE B n (tE B n (p)) ≤ n := tE_le (by omega)
  have hse5 := tSE B n (tE B n (p))
  have hme5 := tT_le B n (tE B n (p))
  have hge5 := tE_ge B n (tE B n (p))
  show X k w _ 4 [some (.ref (wA w (m)))] [] H1 G2
  refine X_aload_n C 0 (D (4, .aload_n 0, 1) (mg 2 rfl)) rfl rfl ?_
  refine X_iconst (v := nI (0)) C (D (5, .iconst 0, 1) (mg 3 rfl)) (by decide) ?_
  refine X_iconst (v := nI (0)) C (D (6, .iconst 0, 1) (mg 4 rfl)) (by decide) ?_
  refine X_bipush (v := nI (24)) C (D (7, .bipush 24, 2) (mg 5 rfl)) (by decide) ?_
  refine X_cV (As := [.int (nI (0)), .int (nI (0)), .int (nI (24))]) (st := []) C (post := _) (m) (by omega) hsm rfl (cx_X8_takes hw hM (B := B) (n := n) (p := tE B n (p)) hn (by omega) (K := 0) (A := 0) (Cm := 24) (by decide) (by decide) H1 G2 (((f4 _ _ (by omega))).trans hb) (fun i hi => by rw [f4 _ _ (by omega)]; exact hB i hi) ⟨(ae5), (be5), (ce5), de5⟩) kX8_274 (by decide) (by decide) rfl rfl (Nat.le_of_ble_eq_true rfl) (D (9, .invokevirtual 274, 3) (mg 6 rfl)) rfl (fun v8 H6 G7 hv8 => ?_)
  obtain ⟨y9, rfl, h01y9, hiy9, f10, hky9, hzy9⟩ := hv8
  show X k w _ 12 [some (.ref (wA w (m)))] [.int (y9)] H6 G7
  refine X_if_eq (tgt := 25) C (D (12, .ifCond .eq 13, 3) (mg 7 rfl)) (by decide) (fun q12 => ?_) (fun q12 => ?_)
  · skip
    have hNy9 : ¬ isN B n (tE B n (p)) (0) (24) := fun u_ => (hiy9).mpr u_ q12
    have hhy9 : H6 = H1 := hzy9 q12
    rw [hhy9]
    refine X_iconst (v := nI (0)) C (D (25, .iconst 0, 1) (mg 14 rfl)) (by decide) ?_
    exact X_zret C (D (26, .ireturn, 1) (mg 15 rfl)) rfl (have hr : pSto B n (tE B n (p)) z = (false, tE B n (p), z) := (by unfold pSto; exact (if_neg (by assumption))); pBr_f hr (xM_f hr (fun q i z1 z2 z3 => by rw [f4 _ _ (by omega)]) ⟨(ae5), (be5), (ce5), de5⟩ ⟨(((f4 _ _ (by omega))).trans ao0), (((f4 _ _ (by omega))).trans ao1), (((f4 _ _ (by omega))).trans ao2), z.2.1, by omega, (((f4 _ _ (by omega))).trans hrc.2.1)⟩))
  · skip
    have hNv13 : isN B n (tE B n (p)) (0) (24) := (hiy9).mp q12
    obtain ⟨hlv13, huv13, -⟩ := isN_v hNv13
    obtain ⟨⟨ae11, be11, ce11, de11⟩, evv13⟩ := hky9 q12
    have hle11 : tE B n (tE B n (tE B n (p))) ≤ n := tE_le (by omega)
    have hse11 := tSE B n (tE B n (tE B n (p)))
    have hme11 := tT_le B n (tE B n (tE B n (p)))
    have hge11 := tE_ge B n (tE B n (tE B n (p)))
    refine X_aload_n C 0 (D (15, .aload_n 0, 1) (mg 8 rfl)) rfl rfl ?_
    refine X_iconst (v := nI (1)) C (D (16, .iconst 1, 1) (mg 9 rfl)) (by decide) ?_
    refine X_iconst (v := nI (0)) C (D (17, .iconst 0, 1) (mg 10 rfl)) (by decide) ?_
    refine X_iconst (v := nI (4)) C (D (18, .iconst 4, 1) (mg 11 rfl)) (by decide) ?_
    refine X_cV (As := [.int (nI (1)), .int (nI (0)), .int (nI (4))]) (st := []) C (post := _) (m) (by omega) hsm rfl (cx_X8_takes hw hM (B := B) (n := n) (p := tE B n (tE B n (p))) hn (by omega) (K := 1) (A := 0) (Cm := 4) (by decide) (by decide) H6 G7 ((((f10 _ _ (by omega) (by omega))).trans (f4 _ _ (by omega))).trans hb) (fun i hi => by rw [f10 _ _ (by omega) (by omega), f4 _ _ (by omega)]; exact hB i hi) ⟨(ae11), (be11), (ce11), de11⟩) kX8_274 (by decide) (by decide) rfl rfl (Nat.le_of_ble_eq_true rfl) (D (19, .invokevirtual 274, 3) (mg 12 rfl)) rfl (fun v16 H14 G15 hv16 => ?_)
    obtain ⟨y17, rfl, h01y17, hiy17, f18, hky17, hzy17⟩ := hv16
    show X k w _ 22 [some (.ref (wA w (m)))] [.int (y17)] H14 G15
    refine X_if_ne (tgt := 27) C (D (22, .ifCond .ne 5, 3) (mg 13 rfl)) (by decide) (fun q20 => ?_) (fun q20 => ?_)
    · skip
      have hNv21 : isN B n (tE B n (tE B n (p))) (0) (4) := (hiy17).mp q20
      obtain ⟨hlv21, huv21, -⟩ := isN_v hNv21
      obtain ⟨⟨ae19, be19, ce19, de19⟩, evv21⟩ := hky17 q20
      have hle19 : tE B n (tE B n (tE B n (tE B n (p)))) ≤ n := tE_le (by omega)
      have hse19 := tSE B n (tE B n (tE B n (tE B n (p))))
      have hme19 := tT_le B n (tE B n (tE B n (tE B n (p))))
      have hge19 := tE_ge B n (tE B n (tE B n (tE B n (p))))
      refine X_aload_n C 0 (D (27, .aload_n 0, 1) (mg 16 rfl)) rfl rfl ?_
      refine X_get (v := .ref (wA w (m + 10))) C (m) 16 (by omega) hsm rfl rfl (by decide) inX8 fX8_42 rfl (D (28, .getfield 42, 3) (mg 17 rfl)) rfl ?_
      refine X_bipush (v := nI (31)) C (D (31, .bipush 31, 2) (mg 18 rfl)) (by decide) ?_
      refine X_aload_n C 0 (D (33, .aload_n 0, 1) (mg 19 rfl)) rfl rfl ?_
      refine X_get (v := .ref (wA w (m + 11))) C (m) 17 (by omega) hsm rfl rfl (by decide) inX8 fX8_45 rfl (D (34, .getfield 45, 3) (mg 20 rfl)) rfl ?_
      refine X_iconst (v := nI (0)) C (D (37, .iconst 0, 1) (mg 21 rfl)) (by decide) ?_
      refine X_iald (v := H14 (m + 11) (0)) C (m + 11) (by omega) hs11 (vp_in_nI (by omega) (by omega)) (D (38, .iaload, 1) (mg 22 rfl)) (by rw [nI_clamp (by omega)]) ?_
      refine X_ti (y := nI (nV B n (tE B n (p)))) (((f18 _ _ (by omega) (by omega))).trans evv13) ?_
      refine X_iadd C (D (39, .iadd, 1) (mg 23 rfl)) ?_
      refine X_ti (y := nI (31 + nV B n (tE B n (p)))) (nI_add (31) (nV B n (tE B n (p)))) ?_
      refine X_aload_n C 0 (D (40, .aload_n 0, 1) (mg 24 rfl)) rfl rfl ?_
      refine X_get (v := .ref (wA w (m + 11))) C (m) 17 (by omega) hsm rfl rfl (by decide) inX8 fX8_45 rfl (D (41, .getfield 45, 3) (mg 25 rfl)) rfl ?_
      refine X_iconst (v := nI (1)) C (D (44, .iconst 1, 1) (mg 26 rfl)) (by decide) ?_
      refine X_iald (v := H14 (m + 11) (1)) C (m + 11) (by omega) hs11 (vp_in_nI (by omega) (by omega)) (D (45, .iaload, 1) (mg 27 rfl)) (by rw [nI_clamp (by omega)]) ?_
      refine X_ti (y := nI (nV B n (tE B n (tE B n (p))))) (evv21) ?_
      refine X_iast (j := 31 + nV B n (tE B n (p))) C (m + 10) (by omega) hs10 (vp_in_nI (by omega) (by omega)) (D (46, .iastore, 1) (mg 28 rfl)) (nI_clamp (by omega)) ?_
      refine X_iconst (v := nI (1)) C (D (47, .iconst 1, 1) (mg 29 rfl)) (by decide) ?_
      exact X_zret C (D (48, .ireturn, 1) (mg 30 rfl)) rfl (have hr : pSto B n (tE B n (p)) z = (true, tE B n (tE B n (tE B n (p))), nSto (z) (nV B n (tE B n (p))) (nV B n (tE B n (tE B n (p))))) := (by unfold pSto; exact ((if_pos (by assumption)).trans (if_pos (by assumption)))); pBr_t hr (xM_t hr (fun q i z1 z2 z3 => by rw [u2_ne _ _ _ _ (by omega), f18 _ _ (by omega) (by omega), f10 _ _ (by omega) (by omega), f4 _ _ (by omega)]) ⟨(((u2_p _ _ _ _ (by omega))).trans ae19), (((u2_p _ _ _ _ (by omega))).trans be19), (((u2_p _ _ _ _ (by omega))).trans ce19), (fun w => by rw [u2_ne _ _ _ _ (by omega)]; exact de19 w)⟩ ⟨((((((u2_i _ _ _ _ (by omega))).trans (f18 _ _ (by omega) (by omega))).trans (f10 _ _ (by omega) (by omega))).trans (f4 _ _ (by omega))).trans ao0), ((((((u2_i _ _ _ _ (by omega))).trans (f18 _ _ (by omega) (by omega))).trans (f10 _ _ (by omega) (by omega))).trans (f4 _ _ (by omega))).trans ao1), ((((((u2_i _ _ _ _ (by omega))).trans (f18 _ _ (by omega) (by omega))).trans (f10 _ _ (by omega) (by omega))).trans (f4 _ _ (by omega))).trans ao2), z.2.1, by omega, ((((((u2_i _ _ _ _ (by omega))).trans (f18 _ _ (by omega) (by omega))).trans (f10 _ _ (by omega) (by omega))).trans (f4 _ _ (by omega))).trans hrc.2.1)⟩ (rM_sto (rM_q (fun i => f18 _ _ (by omega) (by omega)) (rM_q (fun i => f10 _ _ (by omega) (by omega)) (rM_q (fun i => f4 _ _ (by omega)) hrc))) (by omega)) (nSto_ok hok (by omega)) (wB_k (by rw [u2_ne _ _ _ _ (by omega), f18 _ _ (by omega) (by omega), f10 _ _ (by omega) (by omega), f4 _ _ (by omega)]) (by omega) hwb)))
    · skip
      have hNy17 : ¬ isN B n (tE B n (tE B n (p))) (0) (4) := fun u_ => (hiy17).mpr u_ q20
      have hhy17 : H14 = H6 := hzy17 q20
      rw [hhy17]
      refine X_iconst (v := nI (0)) C (D (25, .iconst 0, 1) (mg 14 rfl)) (by decide) ?_
      exact X_zret C (D (26, .ireturn, 1) (mg 15 rfl)) rfl (have hr : pSto B n (tE B n (p)) z = (false, tE B n (tE B n (p)), z) := (by unfold pSto; exact ((if_pos (by assumption)).trans (if_neg (by assumption)))); pBr_f hr (xM_f hr (fun q i z1 z2 z3 => by rw [f10 _ _ (by omega) (by omega), f4 _ _ (by omega)]) ⟨(ae11), (be11), (ce11), de11⟩ ⟨((((f10 _ _ (by omega) (by omega))).trans (f4 _ _ (by omega))).trans ao0), ((((f10 _ _ (by omega) (by omega))).trans (f4 _ _ (by omega))).trans ao1), ((((f10 _ _ (by omega) (by omega))).trans (f4 _ _ (by omega))).trans ao2), z.2.1, by omega, ((((f10 _ _ (by omega) (by omega))).trans (f4 _ _ (by omega))).trans hrc.2.1)⟩))
set_option maxHeartbeats 4000000 in
set_option maxRecDepth 100000 in
theorem cx_X8_takesSaying {l : Launch} {w : Kw} (hw : wOk w) {m : Nat} (hM : shM w m) {B : Nat → Int32} {n p : Nat} (hn : n ≤ 150) (hp : p ≤ n) {z : nS} (h : xI) (g : xJ) (hb : h m 11 = nI n) (hB : ∀ i, i < n → h (m + 9) i = B i) (hk : kM B n p m h) (hrc : rM h (m + 10) z) (hok : nOk z) (hao : aOk h m) (hwb : wB h (m + 10) p) : Ct l w yX8_takesSaying cX8_takesSaying 1 (some .boolean) 5 112 [.ref (wA w (m))] h g (pBr (pSay B n (tE B n (p)) z) (xM B n m h (pSay B n (tE B n (p)) z))) := by
  refine Ct_of (ls := [some (.ref (wA w (m)))]) (by decide) hw (Nat.le_of_ble_eq_true rfl) rfl (fun k hkl C => ?_)
  have C : Cx k w cX8_takesSaying RX8 1 (some .boolean) 5 112 := C
  have D := dtX8_takesSaying
  subst hkl
  have hM0 := hM
  obtain ⟨hm, hsm, hs1, hs2, hs3, hs4, hs5, hs6, hs7, hs8, hs9, hs10, hs11⟩ := hM
  have hM := hM0
  obtain ⟨ht12, ht13, ht14, ht15⟩ := hk
  have hle0 : tE B n p ≤ n := tE_le hp
  have hse0 := tSE B n p
  have hty0 := tT_le B n p
  have hao0 := hao
  obtain ⟨ao0, ao1, ao2, c0, hc0, ao28⟩ := hao
  have hao := hao0
  have hge0 := tE_ge B n p
  have hge1 := tE_ge B n (tE B n p)
  have hge2 := tE_ge B n (tE B n (tE B n p))
  have ha0 := hok.2.1
  refine X_aload_n C 0 (D (0, .aload_n 0, 1) (mg 0 rfl)) rfl rfl ?_
  refine X_cV (As := []) (st := []) C (post := _) (m) (by omega) hsm rfl (cx_X8_goBehind hw hM (B := B) (n := n) (p := p) hn (by omega) h g (hb) hB ⟨(ht12), (ht13), (ht14), ht15⟩) kX8_271 (by decide) (by decide) rfl rfl (Nat.le_of_ble_eq_true rfl) (D (1, .invokevirtual 271, 3) (mg 1 rfl)) rfl (fun v3 H1 G2 hv3 => ?_)
  obtain ⟨rfl, f4, ae5, be5, ce5, de5⟩ := hv3
  have hpe5 : tE B n (p) ≤ n := by omega
  have hle5 : tE B n (tE B n (p)) ≤ n := tE_le (by omega)
  have hse5 := tSE B n (tE B n (p))
  have hme5 := tT_le B n (tE B n (p))
  have hge5 := tE_ge B n (tE B n (p))
  show X k w _ 4 [some (.ref (wA w (m)))] [] H1 G2
  refine X_aload_n C 0 (D (4, .aload_n 0, 1) (mg 2 rfl)) rfl rfl ?_
  refine X_get (v := .int (H1 (m) 14)) C (m) 14 (by omega) hsm rfl rfl (by decide) inX8 fX8_256 rfl (D (5, .getfield 256, 3) (mg 3 rfl)) rfl ?_
  refine X_ti (y := nI (tT B n (tE B n (p)))) (ce5) ?_
  refine X_iconst (v := nI (2)) C (D (8, .iconst 2, 1) (mg 4 rfl)) (by decide) ?_
  refine X_icmp_ne (tgt := 57) C (D (9, .if_icmp .ne 48, 3) (mg 5 rfl)) (by decide) (fun q6 => ?_) (fun q6 => ?_)
  · skip
    have q6 : (tT B n (tE B n (p))) ≠ (2) := by have z : ¬ ((tT B n (tE B n (p))) = (2)) := fun u => q6 ((nI_eq (a := (tT B n (tE B n (p)))) (b := (2)) (by omega) (by omega)).mpr u); omega
    refine X_iconst (v := nI (0)) C (D (57, .iconst 0, 1) (mg 28 rfl)) (by decide) ?_
    exact X_zret C (D (58, .ireturn, 1) (mg 29 rfl)) rfl (have hr : pSay B n (tE B n (p)) z = (false, tE B n (p), z) := (by unfold pSay; first | exact if_neg (isN_2 (by assumption)) | exact if_neg (isN_d (fun _ => rfl) (by assumption)) | exact ((if_pos (by assumption)).trans (if_neg (by assumption))) | exact (((if_pos (by assumption)).trans (if_pos (by assumption))).trans (if_neg (by assumption))) | exact absurd hN_ (by assumption)); pBr_f hr (xM_f hr (fun q i z1 z2 z3 => by rw [f4 _ _ (by omega)]) ⟨(ae5), (be5), (ce5), de5⟩ ⟨(((f4 _ _ (by omega))).trans ao0), (((f4 _ _ (by omega))).trans ao1), (((f4 _ _ (by omega))).trans ao2), z.2.1, by omega, (((f4 _ _ (by omega))).trans hrc.2.1)⟩))
  · skip
    have q6 : (tT B n (tE B n (p))) = (2) := by have z := (nI_eq (a := (tT B n (tE B n (p)))) (b := (2)) (by omega) (by omega)).mp q6; omega
    refine X_aload_n C 0 (D (12, .aload_n 0, 1) (mg 6 rfl)) rfl rfl ?_
    refine X_get (v := .int (H1 (m) 15)) C (m) 15 (by omega) hsm rfl rfl (by decide) inX8 fX8_259 rfl (D (13, .getfield 259, 3) (mg 7 rfl)) rfl ?_
    refine X_ti (y := tV B n (tE B n (p))) ((de5 q6)) ?_
    refine X_cS (As := [.int (tV B n (tE B n (p)))]) (st := []) C (post := _) (ct_X8_isCell hw (tV B n (tE B n (p))) H1 G2) kX8_72 (by decide) (by decide) rfl rfl (Nat.le_of_ble_eq_true rfl) (D (16, .invokestatic 72, 3) (mg 8 rfl)) rfl (fun v9 H7 G8 hv9 => ?_)
    obtain ⟨rfl, rfl, rfl⟩ := hv9
    show X k w _ 19 [some (.ref (wA w (m)))] [.int (if 0 ≤ (tV B n (tE B n (p))).toInt ∧ (tV B n (tE B n (p))).toInt < 25 then 1 else 0)] H1 G2
    refine X_if_eq (tgt := 57) C (D (19, .ifCond .eq 38, 3) (mg 9 rfl)) (by decide) (fun q10 => ?_) (fun q10 => ?_)
    · skip
      have q10 : ¬ (0 ≤ (tV B n (tE B n (p))).toInt ∧ (tV B n (tE B n (p))).toInt < 25) := bz0.mp q10
      refine X_iconst (v := nI (0)) C (D (57, .iconst 0, 1) (mg 28 rfl)) (by decide) ?_
      exact X_zret C (D (58, .ireturn, 1) (mg 29 rfl)) rfl (have hr : pSay B n (tE B n (p)) z = (false, tE B n (p), z) := (by unfold pSay; first | exact if_neg (isN_2 (by assumption)) | exact if_neg (isN_d (fun _ => rfl) (by assumption)) | exact ((if_pos (by assumption)).trans (if_neg (by assumption))) | exact (((if_pos (by assumption)).trans (if_pos (by assumption))).trans (if_neg (by assumption))) | exact absurd hN_ (by assumption)); pBr_f hr (xM_f hr (fun q i z1 z2 z3 => by rw [f4 _ _ (by omega)]) ⟨(ae5), (be5), (ce5), de5⟩ ⟨(((f4 _ _ (by omega))).trans ao0), (((f4 _ _ (by omega))).trans ao1), (((f4 _ _ (by omega))).trans ao2), z.2.1, by omega, (((f4 _ _ (by omega))).trans hrc.2.1)⟩))
    · skip
      have q10 : (0 ≤ (tV B n (tE B n (p))).toInt ∧ (tV B n (tE B n (p))).toInt < 25) := bz1.mp q10
      have hN_ : isN B n (tE B n (p)) 0 24 := isN_c (by assumption) rfl q10
      obtain ⟨hlv11, huv11, ev11⟩ := isN_v hN_
      have evv11 : H1 m 15 = nI (nV B n (tE B n (p))) := (de5 hN_.1).trans ev11
      refine X_aload_n C 0 (D (22, .aload_n 0, 1) (mg 10 rfl)) rfl rfl ?_
      refine X_get (v := .ref (wA w (m + 10))) C (m) 16 (by omega) hsm rfl rfl (by decide) inX8 fX8_42 rfl (D (23, .getfield 42, 3) (mg 11 rfl)) rfl ?_
      refine X_aload_n C 0 (D (26, .aload_n 0, 1) (mg 12 rfl)) rfl rfl ?_
      refine X_get (v := .int (H1 (m) 15)) C (m) 15 (by omega) hsm rfl rfl (by decide) inX8 fX8_259 rfl (D (27, .getfield 259, 3) (mg 13 rfl)) rfl ?_
      refine X_ti (y := nI (nV B n (tE B n (p)))) (evv11) ?_
      refine X_cS (As := [.ref (wA w (m + 10)), .int (nI (nV B n (tE B n (p))))]) (st := []) C (post := _) (ct_X8_lies hw (⟨by omega, hs10, by omega, by omega⟩ : rw56 w (m + 10) 94) (by omega) H1 G2) kX8_64 (by decide) (by decide) rfl rfl (Nat.le_of_ble_eq_true rfl) (D (30, .invokestatic 64, 3) (mg 14 rfl)) rfl (fun v14 H12 G13 hv14 => ?_)
      obtain ⟨rfl, rfl, rfl⟩ := hv14
      show X k w _ 33 [some (.ref (wA w (m)))] [.int (if ¬ H1 (m + 10) (3 + (nV B n (tE B n (p)))) = 0 then 1 else 0)] H1 G2
      refine X_if_ne (tgt := 57) C (D (33, .ifCond .ne 24, 3) (mg 15 rfl)) (by decide) (fun q15 => ?_) (fun q15 => ?_)
      · skip
        have q15 : (¬ H1 (m + 10) (3 + (nV B n (tE B n (p)))) = 0) := bz1.mp q15
        have hL : ¬ z.2.2.2 (nV B n (tE B n (p))) = 0 := fun u_ => q15 ((((rM_q (fun i => f4 _ _ (by omega)) hrc)).2.2.2 _ (by omega)).trans ((nI_z ((hok).2.2.2 _ (by omega))).mpr u_))
        refine X_iconst (v := nI (0)) C (D (57, .iconst 0, 1) (mg 28 rfl)) (by decide) ?_
        exact X_zret C (D (58, .ireturn, 1) (mg 29 rfl)) rfl (have hr : pSay B n (tE B n (p)) z = (false, tE B n (p), z) := (by unfold pSay; first | exact if_neg (isN_2 (by assumption)) | exact if_neg (isN_d (fun _ => rfl) (by assumption)) | exact ((if_pos (by assumption)).trans (if_neg (by assumption))) | exact (((if_pos (by assumption)).trans (if_pos (by assumption))).trans (if_neg (by assumption))) | exact absurd hN_ (by assumption)); pBr_f hr (xM_f hr (fun q i z1 z2 z3 => by rw [f4 _ _ (by omega)]) ⟨(ae5), (be5), (ce5), de5⟩ ⟨(((f4 _ _ (by omega))).trans ao0), (((f4 _ _ (by omega))).trans ao1), (((f4 _ _ (by omega))).trans ao2), z.2.1, by omega, (((f4 _ _ (by omega))).trans hrc.2.1)⟩))
      · skip
        have q15 : ¬ (¬ H1 (m + 10) (3 + (nV B n (tE B n (p)))) = 0) := bz0.mp q15
        have hL : z.2.2.2 (nV B n (tE B n (p))) = 0 := (nI_z ((hok).2.2.2 _ (by omega))).mp ((((rM_q (fun i => f4 _ _ (by omega)) hrc)).2.2.2 _ (by omega)).symm.trans (Classical.not_not.mp q15))
        refine X_aload_n C 0 (D (36, .aload_n 0, 1) (mg 16 rfl)) rfl rfl ?_
        refine X_iconst (v := nI (0)) C (D (37, .iconst 0, 1) (mg 17 rfl)) (by decide) ?_
        refine X_iconst (v := nI (0)) C (D (38, .iconst 0, 1) (mg 18 rfl)) (by decide) ?_
        refine X_bipush (v := nI (24)) C (D (39, .bipush 24, 2) (mg 19 rfl)) (by decide) ?_
        refine X_cV (As := [.int (nI (0)), .int (nI (0)), .int (nI (24))]) (st := []) C (post := _) (m) (by omega) hsm rfl (cx_X8_takes hw hM (B := B) (n := n) (p := tE B n (p)) hn (by omega) (K := 0) (A := 0) (Cm := 24) (by decide) (by decide) H1 G2 (((f4 _ _ (by omega))).trans hb) (fun i hi => by rw [f4 _ _ (by omega)]; exact hB i hi) ⟨(ae5), (be5), (ce5), de5⟩) kX8_274 (by decide) (by decide) rfl rfl (Nat.le_of_ble_eq_true rfl) (D (41, .invokevirtual 274, 3) (mg 20 rfl)) rfl (fun v18 H16 G17 hv18 => ?_)
        obtain ⟨y19, rfl, h01y19, hiy19, f20, hky19, hzy19⟩ := hv18
        show X k w _ 44 [some (.ref (wA w (m)))] [.int (y19)] H16 G17
        refine X_if_eq (tgt := 57) C (D (44, .ifCond .eq 13, 3) (mg 21 rfl)) (by decide) (fun q22 => ?_) (fun q22 => ?_)
        · skip
          have hNy19 : ¬ isN B n (tE B n (p)) (0) (24) := fun u_ => (hiy19).mpr u_ q22
          have hhy19 : H16 = H1 := hzy19 q22
          rw [hhy19]
          refine X_iconst (v := nI (0)) C (D (57, .iconst 0, 1) (mg 28 rfl)) (by decide) ?_
          exact X_zret C (D (58, .ireturn, 1) (mg 29 rfl)) rfl (have hr : pSay B n (tE B n (p)) z = (false, tE B n (p), z) := (by unfold pSay; first | exact if_neg (isN_2 (by assumption)) | exact if_neg (isN_d (fun _ => rfl) (by assumption)) | exact ((if_pos (by assumption)).trans (if_neg (by assumption))) | exact (((if_pos (by assumption)).trans (if_pos (by assumption))).trans (if_neg (by assumption))) | exact absurd hN_ (by assumption)); pBr_f hr (xM_f hr (fun q i z1 z2 z3 => by rw [f4 _ _ (by omega)]) ⟨(ae5), (be5), (ce5), de5⟩ ⟨(((f4 _ _ (by omega))).trans ao0), (((f4 _ _ (by omega))).trans ao1), (((f4 _ _ (by omega))).trans ao2), z.2.1, by omega, (((f4 _ _ (by omega))).trans hrc.2.1)⟩))
        · skip
          have hNv23 : isN B n (tE B n (p)) (0) (24) := (hiy19).mp q22
          obtain ⟨hlv23, huv23, -⟩ := isN_v hNv23
          obtain ⟨⟨ae21, be21, ce21, de21⟩, evv23⟩ := hky19 q22
          have hle21 : tE B n (tE B n (tE B n (p))) ≤ n := tE_le (by omega)
          have hse21 := tSE B n (tE B n (tE B n (p)))
          have hme21 := tT_le B n (tE B n (tE B n (p)))
          have hge21 := tE_ge B n (tE B n (tE B n (p)))
          refine X_aload_n C 0 (D (47, .aload_n 0, 1) (mg 22 rfl)) rfl rfl ?_
          refine X_iconst (v := nI (1)) C (D (48, .iconst 1, 1) (mg 23 rfl)) (by decide) ?_
          refine X_iconst (v := nI (0)) C (D (49, .iconst 0, 1) (mg 24 rfl)) (by decide) ?_
          refine X_iconst (v := nI (5)) C (D (50, .iconst 5, 1) (mg 25 rfl)) (by decide) ?_
          refine X_cV (As := [.int (nI (1)), .int (nI (0)), .int (nI (5))]) (st := []) C (post := _) (m) (by omega) hsm rfl (cx_X8_takes hw hM (B := B) (n := n) (p := tE B n (tE B n (p))) hn (by omega) (K := 1) (A := 0) (Cm := 5) (by decide) (by decide) H16 G17 ((((f20 _ _ (by omega) (by omega))).trans (f4 _ _ (by omega))).trans hb) (fun i hi => by rw [f20 _ _ (by omega) (by omega), f4 _ _ (by omega)]; exact hB i hi) ⟨(ae21), (be21), (ce21), de21⟩) kX8_274 (by decide) (by decide) rfl rfl (Nat.le_of_ble_eq_true rfl) (D (51, .invokevirtual 274, 3) (mg 26 rfl)) rfl (fun v26 H24 G25 hv26 => ?_)
          obtain ⟨y27, rfl, h01y27, hiy27, f28, hky27, hzy27⟩ := hv26
          show X k w _ 54 [some (.ref (wA w (m)))] [.int (y27)] H24 G25
          refine X_if_ne (tgt := 59) C (D (54, .ifCond .ne 5, 3) (mg 27 rfl)) (by decide) (fun q30 => ?_) (fun q30 => ?_)
          · skip
            have hNv31 : isN B n (tE B n (tE B n (p))) (0) (5) := (hiy27).mp q30
            obtain ⟨hlv31, huv31, -⟩ := isN_v hNv31
            obtain ⟨⟨ae29, be29, ce29, de29⟩, evv31⟩ := hky27 q30
            have hle29 : tE B n (tE B n (tE B n (tE B n (p)))) ≤ n := tE_le (by omega)
            have hse29 := tSE B n (tE B n (tE B n (tE B n (p))))
            have hme29 := tT_le B n (tE B n (tE B n (tE B n (p))))
            have hge29 := tE_ge B n (tE B n (tE B n (tE B n (p))))
            refine X_aload_n C 0 (D (59, .aload_n 0, 1) (mg 30 rfl)) rfl rfl ?_
            refine X_get (v := .ref (wA w (m + 10))) C (m) 16 (by omega) hsm rfl rfl (by decide) inX8 fX8_42 rfl (D (60, .getfield 42, 3) (mg 31 rfl)) rfl ?_
            refine X_aload_n C 0 (D (63, .aload_n 0, 1) (mg 32 rfl)) rfl rfl ?_
            refine X_get (v := .ref (wA w (m + 11))) C (m) 17 (by omega) hsm rfl rfl (by decide) inX8 fX8_45 rfl (D (64, .getfield 45, 3) (mg 33 rfl)) rfl ?_
            refine X_iconst (v := nI (0)) C (D (67, .iconst 0, 1) (mg 34 rfl)) (by decide) ?_
            refine X_iald (v := H24 (m + 11) (0)) C (m + 11) (by omega) hs11 (vp_in_nI (by omega) (by omega)) (D (68, .iaload, 1) (mg 35 rfl)) (by rw [nI_clamp (by omega)]) ?_
            refine X_ti (y := nI (nV B n (tE B n (p)))) (((f28 _ _ (by omega) (by omega))).trans evv23) ?_
            refine X_aload_n C 0 (D (69, .aload_n 0, 1) (mg 36 rfl)) rfl rfl ?_
            refine X_get (v := .ref (wA w (m + 11))) C (m) 17 (by omega) hsm rfl rfl (by decide) inX8 fX8_45 rfl (D (70, .getfield 45, 3) (mg 37 rfl)) rfl ?_
            refine X_iconst (v := nI (1)) C (D (73, .iconst 1, 1) (mg 38 rfl)) (by decide) ?_
            refine X_iald (v := H24 (m + 11) (1)) C (m + 11) (by omega) hs11 (vp_in_nI (by omega) (by omega)) (D (74, .iaload, 1) (mg 39 rfl)) (by rw [nI_clamp (by omega)]) ?_
            refine X_ti (y := nI (nV B n (tE B n (tE B n (p))))) (evv31) ?_
            refine X_iconst (v := nI (0)) C (D (75, .iconst 0, 1) (mg 40 rfl)) (by decide) ?_
            refine X_iconst (v := nI (0)) C (D (76, .iconst 0, 1) (mg 41 rfl)) (by decide) ?_
            refine X_cS (As := [.ref (wA w (m + 10)), .int (nI (nV B n (tE B n (p)))), .int (nI (nV B n (tE B n (tE B n (p))))), .int (nI (0)), .int (nI (0))]) (st := []) C (post := _) (ct_X8_lay hw (⟨by omega, hs10, by omega, by omega⟩ : rw56 w (m + 10) 94) (by omega) (nI (nV B n (tE B n (tE B n (p))))) (nI (0)) (nI (0)) H24 G25) kX8_117 (by decide) (by decide) rfl rfl (Nat.le_of_ble_eq_true rfl) (D (77, .invokestatic 117, 3) (mg 42 rfl)) rfl (fun v34 H32 G33 hv34 => ?_)
            obtain ⟨rfl, rfl, rfl⟩ := hv34
            show X k w _ 80 [some (.ref (wA w (m)))] [] (u2 H24 (m + 10) (3 + (nV B n (tE B n (p)))) (mV (nI (nV B n (tE B n (tE B n (p))))) (nI (0)) (nI (0)))) G25
            refine X_iconst (v := nI (1)) C (D (80, .iconst 1, 1) (mg 43 rfl)) (by decide) ?_
            exact X_zret C (D (81, .ireturn, 1) (mg 44 rfl)) rfl (have hr : pSay B n (tE B n (p)) z = (true, tE B n (tE B n (tE B n (p))), nSay (z) (nV B n (tE B n (p))) (nV B n (tE B n (tE B n (p))))) := (by unfold pSay; exact (((if_pos (by assumption)).trans (if_pos (by assumption))).trans (if_pos (by assumption)))); pBr_t hr (xM_t hr (fun q i z1 z2 z3 => by rw [u2_ne _ _ _ _ (by omega), f28 _ _ (by omega) (by omega), f20 _ _ (by omega) (by omega), f4 _ _ (by omega)]) ⟨(((u2_p _ _ _ _ (by omega))).trans ae29), (((u2_p _ _ _ _ (by omega))).trans be29), (((u2_p _ _ _ _ (by omega))).trans ce29), (fun w => by rw [u2_ne _ _ _ _ (by omega)]; exact de29 w)⟩ ⟨((((((u2_i _ _ _ _ (by omega))).trans (f28 _ _ (by omega) (by omega))).trans (f20 _ _ (by omega) (by omega))).trans (f4 _ _ (by omega))).trans ao0), ((((((u2_i _ _ _ _ (by omega))).trans (f28 _ _ (by omega) (by omega))).trans (f20 _ _ (by omega) (by omega))).trans (f4 _ _ (by omega))).trans ao1), ((((((u2_i _ _ _ _ (by omega))).trans (f28 _ _ (by omega) (by omega))).trans (f20 _ _ (by omega) (by omega))).trans (f4 _ _ (by omega))).trans ao2), z.2.1, by omega, ((((((u2_i _ _ _ _ (by omega))).trans (f28 _ _ (by omega) (by omega))).trans (f20 _ _ (by omega) (by omega))).trans (f4 _ _ (by omega))).trans hrc.2.1)⟩ (rM_say (rM_q (fun i => f28 _ _ (by omega) (by omega)) (rM_q (fun i => f20 _ _ (by omega) (by omega)) (rM_q (fun i => f4 _ _ (by omega)) hrc))) (by omega)) (nSay_ok hok (by omega)) (wB_k (by rw [u2_ne _ _ _ _ (by omega), f28 _ _ (by omega) (by omega), f20 _ _ (by omega) (by omega), f4 _ _ (by omega)]) (by omega) hwb)))
          · skip
            have hNy27 : ¬ isN B n (tE B n (tE B n (p))) (0) (5) := fun u_ => (hiy27).mpr u_ q30
            have hhy27 : H24 = H16 := hzy27 q30
            rw [hhy27]
            refine X_iconst (v := nI (0)) C (D (57, .iconst 0, 1) (mg 28 rfl)) (by decide) ?_
            exact X_zret C (D (58, .ireturn, 1) (mg 29 rfl)) rfl (have hr : pSay B n (tE B n (p)) z = (false, tE B n (tE B n (p)), z) := (by unfold pSay; first | exact ((if_pos (by assumption)).trans (if_neg (by assumption))) | exact (((if_pos (by assumption)).trans (if_pos (by assumption))).trans (if_neg (by assumption))) | exact absurd hN_ (by assumption)); pBr_f hr (xM_f hr (fun q i z1 z2 z3 => by rw [f20 _ _ (by omega) (by omega), f4 _ _ (by omega)]) ⟨(ae21), (be21), (ce21), de21⟩ ⟨((((f20 _ _ (by omega) (by omega))).trans (f4 _ _ (by omega))).trans ao0), ((((f20 _ _ (by omega) (by omega))).trans (f4 _ _ (by omega))).trans ao1), ((((f20 _ _ (by omega) (by omega))).trans (f4 _ _ (by omega))).trans ao2), z.2.1, by omega, ((((f20 _ _ (by omega) (by omega))).trans (f4 _ _ (by omega))).trans hrc.2.1)⟩))
set_option maxHeartbeats 4000000 in
set_option maxRecDepth 100000 in
theorem cx_X8_takesDrag {l : Launch} {w : Kw} (hw : wOk w) {m : Nat} (hM : shM w m) {B : Nat → Int32} {n p : Nat} (hn : n ≤ 150) (hp : p ≤ n) {z : nS} (h : xI) (g : xJ) (hb : h m 11 = nI n) (hB : ∀ i, i < n → h (m + 9) i = B i) (hk : kM B n p m h) (hrc : rM h (m + 10) z) (hok : nOk z) (hao : aOk h m) (hwb : wB h (m + 10) p) : Ct l w yX8_takesDrag cX8_takesDrag 2 (some .boolean) 4 91 [.ref (wA w (m))] h g (pBr (pD3 B n (tE B n (p)) z) (xM B n m h (pD3 B n (tE B n (p)) z))) := by
  refine Ct_of (ls := [some (.ref (wA w (m))), none]) (by decide) hw (Nat.le_of_ble_eq_true rfl) rfl (fun k hkl C => ?_)
  have C : Cx k w cX8_takesDrag RX8 2 (some .boolean) 4 91 := C
  have D := dtX8_takesDrag
  subst hkl
  have hM0 := hM
  obtain ⟨hm, hsm, hs1, hs2, hs3, hs4, hs5, hs6, hs7, hs8, hs9, hs10, hs11⟩ := hM
  have hM := hM0
  obtain ⟨ht12, ht13, ht14, ht15⟩ := hk
  have hle0 : tE B n p ≤ n := tE_le hp
  have hse0 := tSE B n p
  have hty0 := tT_le B n p
  have hao0 := hao
  obtain ⟨ao0, ao1, ao2, c0, hc0, ao28⟩ := hao
  have hao := hao0
  have hge0 := tE_ge B n p
  have hge1 := tE_ge B n (tE B n p)
  have hge2 := tE_ge B n (tE B n (tE B n p))
  have ha0 := hok.2.1
  refine X_iconst (v := nI (0)) C (D (0, .iconst 0, 1) (mg 0 rfl)) (by decide) ?_
  refine X_istore_n (ls' := [some (.ref (wA w (m))), some (.int (nI (0)))]) C 1 (D (1, .istore_n 1, 1) (mg 1 rfl)) rfl (Nat.le_of_ble_eq_true rfl) rfl ?_
  refine X_aload_n C 0 (D (2, .aload_n 0, 1) (mg 2 rfl)) rfl rfl ?_
  refine X_cV (As := []) (st := []) C (post := _) (m) (by omega) hsm rfl (cx_X8_goBehind hw hM (B := B) (n := n) (p := p) hn (by omega) h g (hb) hB ⟨(ht12), (ht13), (ht14), ht15⟩) kX8_271 (by decide) (by decide) rfl rfl (Nat.le_of_ble_eq_true rfl) (D (3, .invokevirtual 271, 3) (mg 3 rfl)) rfl (fun v3 H1 G2 hv3 => ?_)
  obtain ⟨rfl, f4, ae5, be5, ce5, de5⟩ := hv3
  have hpe5 : tE B n (p) ≤ n := by omega
  have hle5 : tE B n (tE B n (p)) ≤ n := tE_le (by omega)
  have hse5 := tSE B n (tE B n (p))
  have hme5 := tT_le B n (tE B n (p))
  have hge5 := tE_ge B n (tE B n (p))
  show X k w _ 6 [some (.ref (wA w (m))), some (.int (nI (0)))] [] H1 G2
  have lp6 : ∀ (nn6 : Nat) (p1 : Nat) (z1 : nS) (j : Nat) (hp6 : xI) (gp6 : xJ), (j ≤ 9) → (p1 ≤ n) → (fI m h hp6) → (kM B n p1 m hp6) → (rM hp6 (m + 10) z1) → (nOk z1) → (pDrg B n (9 - j) p1 z1 = pDrg B n 9 (tE B n (p)) z) → (j = 0 → p1 = tE B n (p) ∧ z1 = z) → (0 < j → isN B n (tE B n (p)) 0 3) → (aOk hp6 m) → (wB hp6 (m + 10) p1) → (p ≤ p1) → 10 - j ≤ nn6 → X k w (Zq k w (pBr (pD3 B n (tE B n (p)) z) (xM B n m h (pD3 B n (tE B n (p)) z)))) 6 [some (.ref (wA w (m))), some (.int (nI (j)))] [] hp6 gp6 := by
    intro nn6
    induction nn6 with
    | zero => intro p1 z1 j hp6 gp6 hc6_0 hc6_1 hc6_2 hc6_3 hc6_4 hc6_5 hc6_6 hc6_7 hc6_8 hc6_9 hc6_10 hc6_11 hz; exact absurd hz (by omega)
    | succ nn6 ih6 =>
      intro p1 z1 j hp6 gp6 hc6_0 hc6_1 hc6_2 hc6_3 hc6_4 hc6_5 hc6_6 hc6_7 hc6_8 hc6_9 hc6_10 hc6_11 hz6
      obtain ⟨ae6, be6, ce6, de6⟩ := hc6_3
      have hle6 : tE B n (p1) ≤ n := tE_le (by omega)
      have hse6 := tSE B n (p1)
      have hme6 := tT_le B n (p1)
      have hge6 := tE_ge B n (p1)
      have hxe6 := tE_ge B n (p1)
      obtain ⟨z0e6, z1e6, z2e6, -⟩ := id hc6_9
      have hae6 := (hc6_5).2.1
      refine X_iload_n C 1 (D (6, .iload_n 1, 1) (mg 4 rfl)) rfl rfl ?_
      refine X_if_eq (tgt := 18) C (D (7, .ifCond .eq 11, 3) (mg 5 rfl)) (by decide) (fun q7 => ?_) (fun q7 => ?_)
      · skip
        have q7 : (j) = (0) := by have z := (nI_eq (a := (j)) (b := (0)) (by omega) (by omega)).mp q7; omega
        refine X_iload_n C 1 (D (18, .iload_n 1, 1) (mg 10 rfl)) rfl rfl ?_
        refine X_bipush (v := nI (9)) C (D (19, .bipush 9, 2) (mg 11 rfl)) (by decide) ?_
        refine X_icmp_eq (tgt := 65) C (D (21, .if_icmp .eq 44, 3) (mg 12 rfl)) (by decide) (fun q8 => ?_) (fun q8 => ?_)
        · skip
          have q8 : (j) = (9) := by have z := (nI_eq (a := (j)) (b := (9)) (by omega) (by omega)).mp q8; omega
          refine X_iconst (v := nI (0)) C (D (65, .iconst 0, 1) (mg 33 rfl)) (by decide) ?_
          exact X_zret C (D (66, .ireturn, 1) (mg 34 rfl)) rfl (have hr : pD3 B n (tE B n (p)) z = (false, p1, z1) := (by first | exact d3_f (dr_x (by omega) hc6_6 hc6_7 hc6_8 hN_ hbs) | exact d3_n (dr_e (by omega) (by omega) hc6_6 hc6_8 (Or.inl (by omega))) (fun u_ => by omega) | exact d3_f (dr_0 (by omega) hc6_7 (by first | exact isN_2 (by assumption) | exact (fun v_ => (by assumption : ¬ (((0 : Nat) : Int) ≤ (tV B n (p1)).toInt ∧ (tV B n (p1)).toInt ≤ ((3 : Nat) : Int))) v_.2))) | exact d3_n (dr_e (by omega) (by omega) hc6_6 hc6_8 (Or.inr (by first | exact isN_2 (by assumption) | exact (fun v_ => (by assumption : ¬ (((0 : Nat) : Int) ≤ (tV B n (p1)).toInt ∧ (tV B n (p1)).toInt ≤ ((3 : Nat) : Int))) v_.2)))) (fun u_ => by omega)); pBr_f hr (xM_f hr hc6_2 ⟨(ae6), (be6), (ce6), de6⟩ hc6_9))
        · skip
          have q8 : (j) ≠ (9) := by have z : ¬ ((j) = (9)) := fun u => q8 ((nI_eq (a := (j)) (b := (9)) (by omega) (by omega)).mpr u); omega
          refine X_aload_n C 0 (D (24, .aload_n 0, 1) (mg 13 rfl)) rfl rfl ?_
          refine X_get (v := .int (hp6 (m) 14)) C (m) 14 (by omega) hsm rfl rfl (by decide) inX8 fX8_256 rfl (D (25, .getfield 256, 3) (mg 14 rfl)) rfl ?_
          refine X_ti (y := nI (tT B n (p1))) (ce6) ?_
          refine X_iconst (v := nI (2)) C (D (28, .iconst 2, 1) (mg 15 rfl)) (by decide) ?_
          refine X_icmp_ne (tgt := 65) C (D (29, .if_icmp .ne 36, 3) (mg 16 rfl)) (by decide) (fun q9 => ?_) (fun q9 => ?_)
          · skip
            have q9 : (tT B n (p1)) ≠ (2) := by have z : ¬ ((tT B n (p1)) = (2)) := fun u => q9 ((nI_eq (a := (tT B n (p1))) (b := (2)) (by omega) (by omega)).mpr u); omega
            refine X_iconst (v := nI (0)) C (D (65, .iconst 0, 1) (mg 33 rfl)) (by decide) ?_
            exact X_zret C (D (66, .ireturn, 1) (mg 34 rfl)) rfl (have hr : pD3 B n (tE B n (p)) z = (false, p1, z1) := (by first | exact d3_f (dr_x (by omega) hc6_6 hc6_7 hc6_8 hN_ hbs) | exact d3_n (dr_e (by omega) (by omega) hc6_6 hc6_8 (Or.inl (by omega))) (fun u_ => by omega) | exact d3_f (dr_0 (by omega) hc6_7 (by first | exact isN_2 (by assumption) | exact (fun v_ => (by assumption : ¬ (((0 : Nat) : Int) ≤ (tV B n (p1)).toInt ∧ (tV B n (p1)).toInt ≤ ((3 : Nat) : Int))) v_.2))) | exact d3_n (dr_e (by omega) (by omega) hc6_6 hc6_8 (Or.inr (by first | exact isN_2 (by assumption) | exact (fun v_ => (by assumption : ¬ (((0 : Nat) : Int) ≤ (tV B n (p1)).toInt ∧ (tV B n (p1)).toInt ≤ ((3 : Nat) : Int))) v_.2)))) (fun u_ => by omega)); pBr_f hr (xM_f hr hc6_2 ⟨(ae6), (be6), (ce6), de6⟩ hc6_9))
          · skip
            have q9 : (tT B n (p1)) = (2) := by have z := (nI_eq (a := (tT B n (p1))) (b := (2)) (by omega) (by omega)).mp q9; omega
            refine X_aload_n C 0 (D (32, .aload_n 0, 1) (mg 17 rfl)) rfl rfl ?_
            refine X_get (v := .int (hp6 (m) 15)) C (m) 15 (by omega) hsm rfl rfl (by decide) inX8 fX8_259 rfl (D (33, .getfield 259, 3) (mg 18 rfl)) rfl ?_
            refine X_ti (y := tV B n (p1)) ((de6 q9)) ?_
            refine X_i2l C (D (36, .i2l, 1) (mg 19 rfl)) ?_
            refine X_lconst (v := lN 0) C (D (37, .lconst 0, 1) (mg 20 rfl)) (by decide) ?_
            refine X_ldc2 C (D (38, .ldc2_w 132, 3) (mg 21 rfl)) vX8_132 ?_
            refine X_tl (y := lN (3)) rfl ?_
            refine X_cS (As := [.long ((tV B n (p1)).toInt64), .long (lN (0)), .long (lN (3))]) (st := []) C (post := _) (ct_X8_in hw ((tV B n (p1)).toInt64) (lN (0)) (lN (3)) hp6 gp6) kX8_54 (by decide) (by decide) rfl rfl (Nat.le_of_ble_eq_true rfl) (D (41, .invokestatic 54, 3) (mg 22 rfl)) rfl (fun v12 H10 G11 hv12 => ?_)
            obtain ⟨rfl, rfl, rfl⟩ := hv12
            show X k w _ 44 [some (.ref (wA w (m))), some (.int (nI (j)))] [.int (if (lN (0)).toInt ≤ ((tV B n (p1)).toInt64).toInt ∧ ((tV B n (p1)).toInt64).toInt ≤ (lN (3)).toInt then 1 else 0)] hp6 gp6
            refine X_if_eq (tgt := 65) C (D (44, .ifCond .eq 21, 3) (mg 23 rfl)) (by decide) (fun q13 => ?_) (fun q13 => ?_)
            · skip
              have q13 : ¬ ((lN (0)).toInt ≤ ((tV B n (p1)).toInt64).toInt ∧ ((tV B n (p1)).toInt64).toInt ≤ (lN (3)).toInt) := bz0.mp q13
              simp only [i6, pk_lT (n := 0) (by omega), pk_lT (n := 3) (by omega)] at q13
              refine X_iconst (v := nI (0)) C (D (65, .iconst 0, 1) (mg 33 rfl)) (by decide) ?_
              exact X_zret C (D (66, .ireturn, 1) (mg 34 rfl)) rfl (have hr : pD3 B n (tE B n (p)) z = (false, p1, z1) := (by first | exact d3_f (dr_x (by omega) hc6_6 hc6_7 hc6_8 hN_ hbs) | exact d3_n (dr_e (by omega) (by omega) hc6_6 hc6_8 (Or.inl (by omega))) (fun u_ => by omega) | exact d3_f (dr_0 (by omega) hc6_7 (by first | exact isN_2 (by assumption) | exact (fun v_ => (by assumption : ¬ (((0 : Nat) : Int) ≤ (tV B n (p1)).toInt ∧ (tV B n (p1)).toInt ≤ ((3 : Nat) : Int))) v_.2))) | exact d3_n (dr_e (by omega) (by omega) hc6_6 hc6_8 (Or.inr (by first | exact isN_2 (by assumption) | exact (fun v_ => (by assumption : ¬ (((0 : Nat) : Int) ≤ (tV B n (p1)).toInt ∧ (tV B n (p1)).toInt ≤ ((3 : Nat) : Int))) v_.2)))) (fun u_ => by omega)); pBr_f hr (xM_f hr hc6_2 ⟨(ae6), (be6), (ce6), de6⟩ hc6_9))
            · skip
              have q13 : ((lN (0)).toInt ≤ ((tV B n (p1)).toInt64).toInt ∧ ((tV B n (p1)).toInt64).toInt ≤ (lN (3)).toInt) := bz1.mp q13
              simp only [i6, pk_lT (n := 0) (by omega), pk_lT (n := 3) (by omega)] at q13
              have hN_ : isN B n (p1) 0 3 := ⟨by assumption, q13.1, q13.2⟩
              obtain ⟨hlv14, huv14, ev14⟩ := isN_v hN_
              have evv14 : hp6 m 15 = nI (nV B n (p1)) := (de6 hN_.1).trans ev14
              refine X_aload_n C 0 (D (47, .aload_n 0, 1) (mg 24 rfl)) rfl rfl ?_
              refine X_get (v := .ref (wA w (m + 10))) C (m) 16 (by omega) hsm rfl rfl (by decide) inX8 fX8_42 rfl (D (48, .getfield 42, 3) (mg 25 rfl)) rfl ?_
              refine X_bipush (v := nI (28)) C (D (51, .bipush 28, 2) (mg 26 rfl)) (by decide) ?_
              refine X_iald (v := hp6 (m + 10) (28)) C (m + 10) (by omega) hs10 (vp_in_nI (by omega) (by omega)) (D (53, .iaload, 1) (mg 27 rfl)) (by rw [nI_clamp (by omega)]) ?_
              refine X_ti (y := nI ((z1).2.1)) ((hc6_4).2.1) ?_
              refine X_aload_n C 0 (D (54, .aload_n 0, 1) (mg 28 rfl)) rfl rfl ?_
              refine X_get (v := .int (hp6 (m) 15)) C (m) 15 (by omega) hsm rfl rfl (by decide) inX8 fX8_259 rfl (D (55, .getfield 259, 3) (mg 29 rfl)) rfl ?_
              refine X_ti (y := nI (nV B n (p1))) (evv14) ?_
              refine X_cS (As := [.int (nI ((z1).2.1)), .int (nI (nV B n (p1)))]) (st := []) C (post := _) (ct_X8_beside hw (j := (z1).2.1) (by omega) (nI (nV B n (p1))) hp6 gp6) kX8_110 (by decide) (by decide) rfl rfl (Nat.le_of_ble_eq_true rfl) (D (58, .invokestatic 110, 3) (mg 30 rfl)) rfl (fun v17 H15 G16 hv17 => ?_)
              obtain ⟨rfl, rfl, rfl⟩ := hv17
              show X k w _ 61 [some (.ref (wA w (m))), some (.int (nI (j)))] [.int (bsA ((z1).2.1) (nI (nV B n (p1))))] hp6 gp6
              refine X_iconst (v := (-1 : Int32)) C (D (61, .iconst (-1), 1) (mg 31 rfl)) (by decide) ?_
              refine X_icmp_ne (tgt := 67) C (D (62, .if_icmp .ne 5, 3) (mg 32 rfl)) (by decide) (fun q18 => ?_) (fun q18 => ?_)
              · skip
                have hbs : bsN ((z1).2.1) (nV B n (p1)) < 25 := bs_lt (by omega) (by omega) q18
                refine X_aload_n C 0 (D (67, .aload_n 0, 1) (mg 35 rfl)) rfl rfl ?_
                refine X_get (v := .ref (wA w (m + 10))) C (m) 16 (by omega) hsm rfl rfl (by decide) inX8 fX8_42 rfl (D (68, .getfield 42, 3) (mg 36 rfl)) rfl ?_
                refine X_aload_n C 0 (D (71, .aload_n 0, 1) (mg 37 rfl)) rfl rfl ?_
                refine X_get (v := .int (hp6 (m) 15)) C (m) 15 (by omega) hsm rfl rfl (by decide) inX8 fX8_259 rfl (D (72, .getfield 259, 3) (mg 38 rfl)) rfl ?_
                refine X_ti (y := nI (nV B n (p1))) (evv14) ?_
                refine X_cS (As := [.ref (wA w (m + 10)), .int (nI (nV B n (p1)))]) (st := []) C (post := _) (ct_X8_goStep hw (⟨by omega, hs10, by omega, by omega⟩ : rw56 w (m + 10) 94) (j := (z1).2.1) (c := bsN ((z1).2.1) (nV B n (p1))) (by omega) hbs (nI (nV B n (p1))) hp6 gp6 ((hc6_4).2.1) (bs_eq (by omega) (by omega) hbs)) kX8_134 (by decide) (by decide) rfl rfl (Nat.le_of_ble_eq_true rfl) (D (75, .invokestatic 134, 3) (mg 39 rfl)) rfl (fun v21 H19 G20 hv21 => ?_)
                obtain ⟨rfl, rfl, rfl⟩ := hv21
                show X k w _ 78 [some (.ref (wA w (m))), some (.int (nI (j)))] [] (stH hp6 (m + 10) (bsN ((z1).2.1) (nV B n (p1)))) gp6
                refine X_aload_n C 0 (D (78, .aload_n 0, 1) (mg 40 rfl)) rfl rfl ?_
                refine X_cV (As := []) (st := []) C (post := _) (m) (by omega) hsm rfl (cx_X8_goBehind hw hM (B := B) (n := n) (p := p1) hn (by omega) (stH hp6 (m + 10) (bsN ((z1).2.1) (nV B n (p1)))) gp6 (((stH_ne _ _ _ (by omega))).trans ((hc6_2 _ _ (by omega) (by omega) (by omega)).trans hb)) (fun i hi => by rw [stH_ne _ _ _ (by omega)]; exact (fun i hi => (hc6_2 _ _ (by omega) (by omega) (by omega)).trans (hB i hi)) i hi) ⟨(((stH_ne _ _ _ (by omega))).trans ae6), (((stH_ne _ _ _ (by omega))).trans be6), (((stH_ne _ _ _ (by omega))).trans ce6), (fun w => by rw [stH_ne _ _ _ (by omega)]; exact de6 w)⟩) kX8_271 (by decide) (by decide) rfl rfl (Nat.le_of_ble_eq_true rfl) (D (79, .invokevirtual 271, 3) (mg 41 rfl)) rfl (fun v24 H22 G23 hv24 => ?_)
                obtain ⟨rfl, f25, ae26, be26, ce26, de26⟩ := hv24
                have hpe26 : tE B n (p1) ≤ n := by omega
                have hle26 : tE B n (tE B n (p1)) ≤ n := tE_le (by omega)
                have hse26 := tSE B n (tE B n (p1))
                have hme26 := tT_le B n (tE B n (p1))
                have hge26 := tE_ge B n (tE B n (p1))
                show X k w _ 82 [some (.ref (wA w (m))), some (.int (nI (j)))] [] H22 G23
                refine X_iinc (v := nI (j + 1)) (ls' := [some (.ref (wA w (m))), some (.int (nI (j + 1)))]) C (D (82, .iinc 1 1, 3) (mg 42 rfl)) rfl (nI_add (j) 1) rfl ?_
                refine X_goto (tgt := 6) C (D (85, .goto (-79), 3) (mg 43 rfl)) (by decide) ?_
                refine X_eq (ls' := [some (.ref (wA w (m))), some (.int (nI (j + 1)))]) (st' := []) (h' := H22) (g' := G23) rfl rfl rfl rfl ?_
                exact ih6 (tE B n (p1)) (nStp (z1) (bsN ((z1).2.1) (nV B n (p1)))) (j + 1) (H22) (G23) (by omega) (by omega) (fun q i z1 z2 z3 => by rw [f25 _ _ (by omega), stH_ne _ _ _ (by omega)]; exact hc6_2 q i z1 z2 z3) ⟨(ae26), (be26), (ce26), de26⟩ (rM_q (fun i => f25 _ _ (by omega)) (rM_stp hc6_4 hc6_5 (by omega))) (nStp_ok hc6_5 (by omega)) (dr_s (by omega) hc6_6 hN_ hbs) (fun u_ => absurd u_ (by omega)) (fun _ => dr_n hc6_7 hc6_8 hN_) ⟨((((f25 _ _ (by omega))).trans (stH_ne _ _ _ (by omega))).trans z0e6), ((((f25 _ _ (by omega))).trans (stH_ne _ _ _ (by omega))).trans z1e6), ((((f25 _ _ (by omega))).trans (stH_ne _ _ _ (by omega))).trans z2e6), bsN ((z1).2.1) (nV B n (p1)), by omega, (((f25 _ _ (by omega))).trans (st_28 _ _ _ (by omega)))⟩ (wB_k (by rw [f25 _ _ (by omega), stH_ne _ _ _ (by omega)]) (by omega) hc6_10) (by omega) (by omega)
              · skip
                have hbs : ¬ bsN ((z1).2.1) (nV B n (p1)) < 25 := bs_ge (by omega) (by omega) q18
                refine X_iconst (v := nI (0)) C (D (65, .iconst 0, 1) (mg 33 rfl)) (by decide) ?_
                exact X_zret C (D (66, .ireturn, 1) (mg 34 rfl)) rfl (have hr : pD3 B n (tE B n (p)) z = (false, p1, z1) := (by first | exact d3_f (dr_x (by omega) hc6_6 hc6_7 hc6_8 hN_ hbs) | exact d3_n (dr_e (by omega) (by omega) hc6_6 hc6_8 (Or.inl (by omega))) (fun u_ => by omega) | exact d3_f (dr_0 (by omega) hc6_7 (by first | exact isN_2 (by assumption) | exact (fun v_ => (by assumption : ¬ (((0 : Nat) : Int) ≤ (tV B n (p1)).toInt ∧ (tV B n (p1)).toInt ≤ ((3 : Nat) : Int))) v_.2))) | exact d3_n (dr_e (by omega) (by omega) hc6_6 hc6_8 (Or.inr (by first | exact isN_2 (by assumption) | exact (fun v_ => (by assumption : ¬ (((0 : Nat) : Int) ≤ (tV B n (p1)).toInt ∧ (tV B n (p1)).toInt ≤ ((3 : Nat) : Int))) v_.2)))) (fun u_ => by omega)); pBr_f hr (xM_f hr hc6_2 ⟨(ae6), (be6), (ce6), de6⟩ hc6_9))
      · skip
        have q7 : (j) ≠ (0) := by have z : ¬ ((j) = (0)) := fun u => q7 ((nI_eq (a := (j)) (b := (0)) (by omega) (by omega)).mpr u); omega
        refine X_aload_n C 0 (D (10, .aload_n 0, 1) (mg 6 rfl)) rfl rfl ?_
        refine X_get (v := .int (hp6 (m) 14)) C (m) 14 (by omega) hsm rfl rfl (by decide) inX8 fX8_256 rfl (D (11, .getfield 256, 3) (mg 7 rfl)) rfl ?_
        refine X_ti (y := nI (tT B n (p1))) (ce6) ?_
        refine X_iconst (v := nI (3)) C (D (14, .iconst 3, 1) (mg 8 rfl)) (by decide) ?_
        refine X_icmp_eq (tgt := 88) C (D (15, .if_icmp .eq 73, 3) (mg 9 rfl)) (by decide) (fun q27 => ?_) (fun q27 => ?_)
        · skip
          have q27 : (tT B n (p1)) = (3) := by have z := (nI_eq (a := (tT B n (p1))) (b := (3)) (by omega) (by omega)).mp q27; omega
          refine X_iconst (v := nI (1)) C (D (88, .iconst 1, 1) (mg 44 rfl)) (by decide) ?_
          exact X_zret C (D (89, .ireturn, 1) (mg 45 rfl)) rfl (have hr : pD3 B n (tE B n (p)) z = (true, p1, z1) := d3_t (dr_e (by omega) (by omega) hc6_6 hc6_8 (Or.inr (isN_2 (by omega)))) (by omega); pBr_t hr (xM_t hr hc6_2 ⟨(ae6), (be6), (ce6), de6⟩ hc6_9 hc6_4 hc6_5 (wB_k rfl (by omega) hc6_10)))
        · skip
          have q27 : (tT B n (p1)) ≠ (3) := by have z : ¬ ((tT B n (p1)) = (3)) := fun u => q27 ((nI_eq (a := (tT B n (p1))) (b := (3)) (by omega) (by omega)).mpr u); omega
          refine X_iload_n C 1 (D (18, .iload_n 1, 1) (mg 10 rfl)) rfl rfl ?_
          refine X_bipush (v := nI (9)) C (D (19, .bipush 9, 2) (mg 11 rfl)) (by decide) ?_
          refine X_icmp_eq (tgt := 65) C (D (21, .if_icmp .eq 44, 3) (mg 12 rfl)) (by decide) (fun q28 => ?_) (fun q28 => ?_)
          · skip
            have q28 : (j) = (9) := by have z := (nI_eq (a := (j)) (b := (9)) (by omega) (by omega)).mp q28; omega
            refine X_iconst (v := nI (0)) C (D (65, .iconst 0, 1) (mg 33 rfl)) (by decide) ?_
            exact X_zret C (D (66, .ireturn, 1) (mg 34 rfl)) rfl (have hr : pD3 B n (tE B n (p)) z = (false, p1, z1) := (by first | exact d3_f (dr_x (by omega) hc6_6 hc6_7 hc6_8 hN_ hbs) | exact d3_n (dr_e (by omega) (by omega) hc6_6 hc6_8 (Or.inl (by omega))) (fun u_ => by omega) | exact d3_f (dr_0 (by omega) hc6_7 (by first | exact isN_2 (by assumption) | exact (fun v_ => (by assumption : ¬ (((0 : Nat) : Int) ≤ (tV B n (p1)).toInt ∧ (tV B n (p1)).toInt ≤ ((3 : Nat) : Int))) v_.2))) | exact d3_n (dr_e (by omega) (by omega) hc6_6 hc6_8 (Or.inr (by first | exact isN_2 (by assumption) | exact (fun v_ => (by assumption : ¬ (((0 : Nat) : Int) ≤ (tV B n (p1)).toInt ∧ (tV B n (p1)).toInt ≤ ((3 : Nat) : Int))) v_.2)))) (fun u_ => by omega)); pBr_f hr (xM_f hr hc6_2 ⟨(ae6), (be6), (ce6), de6⟩ hc6_9))
          · skip
            have q28 : (j) ≠ (9) := by have z : ¬ ((j) = (9)) := fun u => q28 ((nI_eq (a := (j)) (b := (9)) (by omega) (by omega)).mpr u); omega
            refine X_aload_n C 0 (D (24, .aload_n 0, 1) (mg 13 rfl)) rfl rfl ?_
            refine X_get (v := .int (hp6 (m) 14)) C (m) 14 (by omega) hsm rfl rfl (by decide) inX8 fX8_256 rfl (D (25, .getfield 256, 3) (mg 14 rfl)) rfl ?_
            refine X_ti (y := nI (tT B n (p1))) (ce6) ?_
            refine X_iconst (v := nI (2)) C (D (28, .iconst 2, 1) (mg 15 rfl)) (by decide) ?_
            refine X_icmp_ne (tgt := 65) C (D (29, .if_icmp .ne 36, 3) (mg 16 rfl)) (by decide) (fun q29 => ?_) (fun q29 => ?_)
            · skip
              have q29 : (tT B n (p1)) ≠ (2) := by have z : ¬ ((tT B n (p1)) = (2)) := fun u => q29 ((nI_eq (a := (tT B n (p1))) (b := (2)) (by omega) (by omega)).mpr u); omega
              refine X_iconst (v := nI (0)) C (D (65, .iconst 0, 1) (mg 33 rfl)) (by decide) ?_
              exact X_zret C (D (66, .ireturn, 1) (mg 34 rfl)) rfl (have hr : pD3 B n (tE B n (p)) z = (false, p1, z1) := (by first | exact d3_f (dr_x (by omega) hc6_6 hc6_7 hc6_8 hN_ hbs) | exact d3_n (dr_e (by omega) (by omega) hc6_6 hc6_8 (Or.inl (by omega))) (fun u_ => by omega) | exact d3_f (dr_0 (by omega) hc6_7 (by first | exact isN_2 (by assumption) | exact (fun v_ => (by assumption : ¬ (((0 : Nat) : Int) ≤ (tV B n (p1)).toInt ∧ (tV B n (p1)).toInt ≤ ((3 : Nat) : Int))) v_.2))) | exact d3_n (dr_e (by omega) (by omega) hc6_6 hc6_8 (Or.inr (by first | exact isN_2 (by assumption) | exact (fun v_ => (by assumption : ¬ (((0 : Nat) : Int) ≤ (tV B n (p1)).toInt ∧ (tV B n (p1)).toInt ≤ ((3 : Nat) : Int))) v_.2)))) (fun u_ => by omega)); pBr_f hr (xM_f hr hc6_2 ⟨(ae6), (be6), (ce6), de6⟩ hc6_9))
            · skip
              have q29 : (tT B n (p1)) = (2) := by have z := (nI_eq (a := (tT B n (p1))) (b := (2)) (by omega) (by omega)).mp q29; omega
              refine X_aload_n C 0 (D (32, .aload_n 0, 1) (mg 17 rfl)) rfl rfl ?_
              refine X_get (v := .int (hp6 (m) 15)) C (m) 15 (by omega) hsm rfl rfl (by decide) inX8 fX8_259 rfl (D (33, .getfield 259, 3) (mg 18 rfl)) rfl ?_
              refine X_ti (y := tV B n (p1)) ((de6 q29)) ?_
              refine X_i2l C (D (36, .i2l, 1) (mg 19 rfl)) ?_
              refine X_lconst (v := lN 0) C (D (37, .lconst 0, 1) (mg 20 rfl)) (by decide) ?_
              refine X_ldc2 C (D (38, .ldc2_w 132, 3) (mg 21 rfl)) vX8_132 ?_
              refine X_tl (y := lN (3)) rfl ?_
              refine X_cS (As := [.long ((tV B n (p1)).toInt64), .long (lN (0)), .long (lN (3))]) (st := []) C (post := _) (ct_X8_in hw ((tV B n (p1)).toInt64) (lN (0)) (lN (3)) hp6 gp6) kX8_54 (by decide) (by decide) rfl rfl (Nat.le_of_ble_eq_true rfl) (D (41, .invokestatic 54, 3) (mg 22 rfl)) rfl (fun v32 H30 G31 hv32 => ?_)
              obtain ⟨rfl, rfl, rfl⟩ := hv32
              show X k w _ 44 [some (.ref (wA w (m))), some (.int (nI (j)))] [.int (if (lN (0)).toInt ≤ ((tV B n (p1)).toInt64).toInt ∧ ((tV B n (p1)).toInt64).toInt ≤ (lN (3)).toInt then 1 else 0)] hp6 gp6
              refine X_if_eq (tgt := 65) C (D (44, .ifCond .eq 21, 3) (mg 23 rfl)) (by decide) (fun q33 => ?_) (fun q33 => ?_)
              · skip
                have q33 : ¬ ((lN (0)).toInt ≤ ((tV B n (p1)).toInt64).toInt ∧ ((tV B n (p1)).toInt64).toInt ≤ (lN (3)).toInt) := bz0.mp q33
                simp only [i6, pk_lT (n := 0) (by omega), pk_lT (n := 3) (by omega)] at q33
                refine X_iconst (v := nI (0)) C (D (65, .iconst 0, 1) (mg 33 rfl)) (by decide) ?_
                exact X_zret C (D (66, .ireturn, 1) (mg 34 rfl)) rfl (have hr : pD3 B n (tE B n (p)) z = (false, p1, z1) := (by first | exact d3_f (dr_x (by omega) hc6_6 hc6_7 hc6_8 hN_ hbs) | exact d3_n (dr_e (by omega) (by omega) hc6_6 hc6_8 (Or.inl (by omega))) (fun u_ => by omega) | exact d3_f (dr_0 (by omega) hc6_7 (by first | exact isN_2 (by assumption) | exact (fun v_ => (by assumption : ¬ (((0 : Nat) : Int) ≤ (tV B n (p1)).toInt ∧ (tV B n (p1)).toInt ≤ ((3 : Nat) : Int))) v_.2))) | exact d3_n (dr_e (by omega) (by omega) hc6_6 hc6_8 (Or.inr (by first | exact isN_2 (by assumption) | exact (fun v_ => (by assumption : ¬ (((0 : Nat) : Int) ≤ (tV B n (p1)).toInt ∧ (tV B n (p1)).toInt ≤ ((3 : Nat) : Int))) v_.2)))) (fun u_ => by omega)); pBr_f hr (xM_f hr hc6_2 ⟨(ae6), (be6), (ce6), de6⟩ hc6_9))
              · skip
                have q33 : ((lN (0)).toInt ≤ ((tV B n (p1)).toInt64).toInt ∧ ((tV B n (p1)).toInt64).toInt ≤ (lN (3)).toInt) := bz1.mp q33
                simp only [i6, pk_lT (n := 0) (by omega), pk_lT (n := 3) (by omega)] at q33
                have hN_ : isN B n (p1) 0 3 := ⟨by assumption, q33.1, q33.2⟩
                obtain ⟨hlv34, huv34, ev34⟩ := isN_v hN_
                have evv34 : hp6 m 15 = nI (nV B n (p1)) := (de6 hN_.1).trans ev34
                refine X_aload_n C 0 (D (47, .aload_n 0, 1) (mg 24 rfl)) rfl rfl ?_
                refine X_get (v := .ref (wA w (m + 10))) C (m) 16 (by omega) hsm rfl rfl (by decide) inX8 fX8_42 rfl (D (48, .getfield 42, 3) (mg 25 rfl)) rfl ?_
                refine X_bipush (v := nI (28)) C (D (51, .bipush 28, 2) (mg 26 rfl)) (by decide) ?_
                refine X_iald (v := hp6 (m + 10) (28)) C (m + 10) (by omega) hs10 (vp_in_nI (by omega) (by omega)) (D (53, .iaload, 1) (mg 27 rfl)) (by rw [nI_clamp (by omega)]) ?_
                refine X_ti (y := nI ((z1).2.1)) ((hc6_4).2.1) ?_
                refine X_aload_n C 0 (D (54, .aload_n 0, 1) (mg 28 rfl)) rfl rfl ?_
                refine X_get (v := .int (hp6 (m) 15)) C (m) 15 (by omega) hsm rfl rfl (by decide) inX8 fX8_259 rfl (D (55, .getfield 259, 3) (mg 29 rfl)) rfl ?_
                refine X_ti (y := nI (nV B n (p1))) (evv34) ?_
                refine X_cS (As := [.int (nI ((z1).2.1)), .int (nI (nV B n (p1)))]) (st := []) C (post := _) (ct_X8_beside hw (j := (z1).2.1) (by omega) (nI (nV B n (p1))) hp6 gp6) kX8_110 (by decide) (by decide) rfl rfl (Nat.le_of_ble_eq_true rfl) (D (58, .invokestatic 110, 3) (mg 30 rfl)) rfl (fun v37 H35 G36 hv37 => ?_)
                obtain ⟨rfl, rfl, rfl⟩ := hv37
                show X k w _ 61 [some (.ref (wA w (m))), some (.int (nI (j)))] [.int (bsA ((z1).2.1) (nI (nV B n (p1))))] hp6 gp6
                refine X_iconst (v := (-1 : Int32)) C (D (61, .iconst (-1), 1) (mg 31 rfl)) (by decide) ?_
                refine X_icmp_ne (tgt := 67) C (D (62, .if_icmp .ne 5, 3) (mg 32 rfl)) (by decide) (fun q38 => ?_) (fun q38 => ?_)
                · skip
                  have hbs : bsN ((z1).2.1) (nV B n (p1)) < 25 := bs_lt (by omega) (by omega) q38
                  refine X_aload_n C 0 (D (67, .aload_n 0, 1) (mg 35 rfl)) rfl rfl ?_
                  refine X_get (v := .ref (wA w (m + 10))) C (m) 16 (by omega) hsm rfl rfl (by decide) inX8 fX8_42 rfl (D (68, .getfield 42, 3) (mg 36 rfl)) rfl ?_
                  refine X_aload_n C 0 (D (71, .aload_n 0, 1) (mg 37 rfl)) rfl rfl ?_
                  refine X_get (v := .int (hp6 (m) 15)) C (m) 15 (by omega) hsm rfl rfl (by decide) inX8 fX8_259 rfl (D (72, .getfield 259, 3) (mg 38 rfl)) rfl ?_
                  refine X_ti (y := nI (nV B n (p1))) (evv34) ?_
                  refine X_cS (As := [.ref (wA w (m + 10)), .int (nI (nV B n (p1)))]) (st := []) C (post := _) (ct_X8_goStep hw (⟨by omega, hs10, by omega, by omega⟩ : rw56 w (m + 10) 94) (j := (z1).2.1) (c := bsN ((z1).2.1) (nV B n (p1))) (by omega) hbs (nI (nV B n (p1))) hp6 gp6 ((hc6_4).2.1) (bs_eq (by omega) (by omega) hbs)) kX8_134 (by decide) (by decide) rfl rfl (Nat.le_of_ble_eq_true rfl) (D (75, .invokestatic 134, 3) (mg 39 rfl)) rfl (fun v41 H39 G40 hv41 => ?_)
                  obtain ⟨rfl, rfl, rfl⟩ := hv41
                  show X k w _ 78 [some (.ref (wA w (m))), some (.int (nI (j)))] [] (stH hp6 (m + 10) (bsN ((z1).2.1) (nV B n (p1)))) gp6
                  refine X_aload_n C 0 (D (78, .aload_n 0, 1) (mg 40 rfl)) rfl rfl ?_
                  refine X_cV (As := []) (st := []) C (post := _) (m) (by omega) hsm rfl (cx_X8_goBehind hw hM (B := B) (n := n) (p := p1) hn (by omega) (stH hp6 (m + 10) (bsN ((z1).2.1) (nV B n (p1)))) gp6 (((stH_ne _ _ _ (by omega))).trans ((hc6_2 _ _ (by omega) (by omega) (by omega)).trans hb)) (fun i hi => by rw [stH_ne _ _ _ (by omega)]; exact (fun i hi => (hc6_2 _ _ (by omega) (by omega) (by omega)).trans (hB i hi)) i hi) ⟨(((stH_ne _ _ _ (by omega))).trans ae6), (((stH_ne _ _ _ (by omega))).trans be6), (((stH_ne _ _ _ (by omega))).trans ce6), (fun w => by rw [stH_ne _ _ _ (by omega)]; exact de6 w)⟩) kX8_271 (by decide) (by decide) rfl rfl (Nat.le_of_ble_eq_true rfl) (D (79, .invokevirtual 271, 3) (mg 41 rfl)) rfl (fun v44 H42 G43 hv44 => ?_)
                  obtain ⟨rfl, f45, ae46, be46, ce46, de46⟩ := hv44
                  have hpe46 : tE B n (p1) ≤ n := by omega
                  have hle46 : tE B n (tE B n (p1)) ≤ n := tE_le (by omega)
                  have hse46 := tSE B n (tE B n (p1))
                  have hme46 := tT_le B n (tE B n (p1))
                  have hge46 := tE_ge B n (tE B n (p1))
                  show X k w _ 82 [some (.ref (wA w (m))), some (.int (nI (j)))] [] H42 G43
                  refine X_iinc (v := nI (j + 1)) (ls' := [some (.ref (wA w (m))), some (.int (nI (j + 1)))]) C (D (82, .iinc 1 1, 3) (mg 42 rfl)) rfl (nI_add (j) 1) rfl ?_
                  refine X_goto (tgt := 6) C (D (85, .goto (-79), 3) (mg 43 rfl)) (by decide) ?_
                  refine X_eq (ls' := [some (.ref (wA w (m))), some (.int (nI (j + 1)))]) (st' := []) (h' := H42) (g' := G43) rfl rfl rfl rfl ?_
                  exact ih6 (tE B n (p1)) (nStp (z1) (bsN ((z1).2.1) (nV B n (p1)))) (j + 1) (H42) (G43) (by omega) (by omega) (fun q i z1 z2 z3 => by rw [f45 _ _ (by omega), stH_ne _ _ _ (by omega)]; exact hc6_2 q i z1 z2 z3) ⟨(ae46), (be46), (ce46), de46⟩ (rM_q (fun i => f45 _ _ (by omega)) (rM_stp hc6_4 hc6_5 (by omega))) (nStp_ok hc6_5 (by omega)) (dr_s (by omega) hc6_6 hN_ hbs) (fun u_ => absurd u_ (by omega)) (fun _ => dr_n hc6_7 hc6_8 hN_) ⟨((((f45 _ _ (by omega))).trans (stH_ne _ _ _ (by omega))).trans z0e6), ((((f45 _ _ (by omega))).trans (stH_ne _ _ _ (by omega))).trans z1e6), ((((f45 _ _ (by omega))).trans (stH_ne _ _ _ (by omega))).trans z2e6), bsN ((z1).2.1) (nV B n (p1)), by omega, (((f45 _ _ (by omega))).trans (st_28 _ _ _ (by omega)))⟩ (wB_k (by rw [f45 _ _ (by omega), stH_ne _ _ _ (by omega)]) (by omega) hc6_10) (by omega) (by omega)
                · skip
                  have hbs : ¬ bsN ((z1).2.1) (nV B n (p1)) < 25 := bs_ge (by omega) (by omega) q38
                  refine X_iconst (v := nI (0)) C (D (65, .iconst 0, 1) (mg 33 rfl)) (by decide) ?_
                  exact X_zret C (D (66, .ireturn, 1) (mg 34 rfl)) rfl (have hr : pD3 B n (tE B n (p)) z = (false, p1, z1) := (by first | exact d3_f (dr_x (by omega) hc6_6 hc6_7 hc6_8 hN_ hbs) | exact d3_n (dr_e (by omega) (by omega) hc6_6 hc6_8 (Or.inl (by omega))) (fun u_ => by omega) | exact d3_f (dr_0 (by omega) hc6_7 (by first | exact isN_2 (by assumption) | exact (fun v_ => (by assumption : ¬ (((0 : Nat) : Int) ≤ (tV B n (p1)).toInt ∧ (tV B n (p1)).toInt ≤ ((3 : Nat) : Int))) v_.2))) | exact d3_n (dr_e (by omega) (by omega) hc6_6 hc6_8 (Or.inr (by first | exact isN_2 (by assumption) | exact (fun v_ => (by assumption : ¬ (((0 : Nat) : Int) ≤ (tV B n (p1)).toInt ∧ (tV B n (p1)).toInt ≤ ((3 : Nat) : Int))) v_.2)))) (fun u_ => by omega)); pBr_f hr (xM_f hr hc6_2 ⟨(ae6), (be6), (ce6), de6⟩ hc6_9))
  refine X_eq (ls' := [some (.ref (wA w (m))), some (.int (nI (0)))]) (st' := []) (h' := H1) (g' := G2) rfl rfl rfl rfl ?_
  exact lp6 _ (tE B n (p)) (z) (0) (H1) (G2) (by omega) (by omega) (fun q i z1 z2 z3 => by rw [f4 _ _ (by omega)]) ⟨(ae5), (be5), (ce5), de5⟩ (rM_q (fun i => f4 _ _ (by omega)) hrc) hok rfl (fun _ => ⟨rfl, rfl⟩) (fun u_ => absurd u_ (by omega)) ⟨(((f4 _ _ (by omega))).trans ao0), (((f4 _ _ (by omega))).trans ao1), (((f4 _ _ (by omega))).trans ao2), z.2.1, by omega, (((f4 _ _ (by omega))).trans hrc.2.1)⟩ (wB_k (by rw [f4 _ _ (by omega)]) (by omega) hwb) (by omega) (Nat.le_refl _)
set_option maxHeartbeats 4000000 in
set_option maxRecDepth 100000 in
theorem cx_X8_takesWeeks {l : Launch} {w : Kw} (hw : wOk w) {m : Nat} (hM : shM w m) {B : Nat → Int32} {n p : Nat} (hn : n ≤ 150) (hp : p ≤ n) {z : nS} (h : xI) (g : xJ) (hb : h m 11 = nI n) (hB : ∀ i, i < n → h (m + 9) i = B i) (hk : kM B n p m h) (hrc : rM h (m + 10) z) (hok : nOk z) (hao : aOk h m) (hwb : wB h (m + 10) p) (h5 : p + 5 ≤ tE B n p) : Ct l w yX8_takesWeeks cX8_takesWeeks 1 (some .boolean) 5 112 [.ref (wA w (m))] h g (pBr (pWee B n (tE B n (p)) z) (xM B n m h (pWee B n (tE B n (p)) z))) := by
  refine Ct_of (ls := [some (.ref (wA w (m)))]) (by decide) hw (Nat.le_of_ble_eq_true rfl) rfl (fun k hkl C => ?_)
  have C : Cx k w cX8_takesWeeks RX8 1 (some .boolean) 5 112 := C
  have D := dtX8_takesWeeks
  subst hkl
  have hM0 := hM
  obtain ⟨hm, hsm, hs1, hs2, hs3, hs4, hs5, hs6, hs7, hs8, hs9, hs10, hs11⟩ := hM
  have hM := hM0
  obtain ⟨ht12, ht13, ht14, ht15⟩ := hk
  have hle0 : tE B n p ≤ n := tE_le hp
  have hse0 := tSE B n p
  have hty0 := tT_le B n p
  have hao0 := hao
  obtain ⟨ao0, ao1, ao2, c0, hc0, ao28⟩ := hao
  have hao := hao0
  have hge0 := tE_ge B n p
  have hge1 := tE_ge B n (tE B n p)
  have hge2 := tE_ge B n (tE B n (tE B n p))
  have ha0 := hok.2.1
  refine X_aload_n C 0 (D (0, .aload_n 0, 1) (mg 0 rfl)) rfl rfl ?_
  refine X_cV (As := []) (st := []) C (post := _) (m) (by omega) hsm rfl (cx_X8_goBehind hw hM (B := B) (n := n) (p := p) hn (by omega) h g (hb) hB ⟨(ht12), (ht13), (ht14), ht15⟩) kX8_271 (by decide) (by decide) rfl rfl (Nat.le_of_ble_eq_true rfl) (D (1, .invokevirtual 271, 3) (mg 1 rfl)) rfl (fun v3 H1 G2 hv3 => ?_)
  obtain ⟨rfl, f4, ae5, be5, ce5, de5⟩ := hv3
  have hpe5 : tE B n (p) ≤ n := by omega
  have hle5 : tE B n (tE B n (p)) ≤ n := tE_le (by omega)
  have hse5 := tSE B n (tE B n (p))
  have hme5 := tT_le B n (tE B n (p))
  have hge5 := tE_ge B n (tE B n (p))
  show X k w _ 4 [some (.ref (wA w (m)))] [] H1 G2
  refine X_aload_n C 0 (D (4, .aload_n 0, 1) (mg 2 rfl)) rfl rfl ?_
  refine X_iconst (v := nI (0)) C (D (5, .iconst 0, 1) (mg 3 rfl)) (by decide) ?_
  refine X_iconst (v := nI (1)) C (D (6, .iconst 1, 1) (mg 4 rfl)) (by decide) ?_
  refine X_bipush (v := nI (99)) C (D (7, .bipush 99, 2) (mg 5 rfl)) (by decide) ?_
  refine X_cV (As := [.int (nI (0)), .int (nI (1)), .int (nI (99))]) (st := []) C (post := _) (m) (by omega) hsm rfl (cx_X8_takes hw hM (B := B) (n := n) (p := tE B n (p)) hn (by omega) (K := 0) (A := 1) (Cm := 99) (by decide) (by decide) H1 G2 (((f4 _ _ (by omega))).trans hb) (fun i hi => by rw [f4 _ _ (by omega)]; exact hB i hi) ⟨(ae5), (be5), (ce5), de5⟩) kX8_274 (by decide) (by decide) rfl rfl (Nat.le_of_ble_eq_true rfl) (D (9, .invokevirtual 274, 3) (mg 6 rfl)) rfl (fun v8 H6 G7 hv8 => ?_)
  obtain ⟨y9, rfl, h01y9, hiy9, f10, hky9, hzy9⟩ := hv8
  show X k w _ 12 [some (.ref (wA w (m)))] [.int (y9)] H6 G7
  refine X_if_ne (tgt := 17) C (D (12, .ifCond .ne 5, 3) (mg 7 rfl)) (by decide) (fun q12 => ?_) (fun q12 => ?_)
  · skip
    have hNv13 : isN B n (tE B n (p)) (1) (99) := (hiy9).mp q12
    obtain ⟨hlv13, huv13, -⟩ := isN_v hNv13
    obtain ⟨⟨ae11, be11, ce11, de11⟩, evv13⟩ := hky9 q12
    have hle11 : tE B n (tE B n (tE B n (p))) ≤ n := tE_le (by omega)
    have hse11 := tSE B n (tE B n (tE B n (p)))
    have hme11 := tT_le B n (tE B n (tE B n (p)))
    have hge11 := tE_ge B n (tE B n (tE B n (p)))
    obtain ⟨v29, hw29_, hv29⟩ := hwb
    have hw29 : H6 (m + 10) 29 = nI v29 := by rw [f10 _ _ (by omega) (by omega), f4 _ _ (by omega)]; exact hw29_
    refine X_aload_n C 0 (D (17, .aload_n 0, 1) (mg 10 rfl)) rfl rfl ?_
    refine X_get (v := .ref (wA w (m + 10))) C (m) 16 (by omega) hsm rfl rfl (by decide) inX8 fX8_42 rfl (D (18, .getfield 42, 3) (mg 11 rfl)) rfl ?_
    refine X_aload_n C 0 (D (21, .aload_n 0, 1) (mg 12 rfl)) rfl rfl ?_
    refine X_get (v := .ref (wA w (m + 11))) C (m) 17 (by omega) hsm rfl rfl (by decide) inX8 fX8_45 rfl (D (22, .getfield 45, 3) (mg 13 rfl)) rfl ?_
    refine X_iconst (v := nI (0)) C (D (25, .iconst 0, 1) (mg 14 rfl)) (by decide) ?_
    refine X_iald (v := H6 (m + 11) (0)) C (m + 11) (by omega) hs11 (vp_in_nI (by omega) (by omega)) (D (26, .iaload, 1) (mg 15 rfl)) (by rw [nI_clamp (by omega)]) ?_
    refine X_ti (y := nI (nV B n (tE B n (p)))) (evv13) ?_
    refine X_cS (As := [.ref (wA w (m + 10)), .int (nI (nV B n (tE B n (p))))]) (st := []) C (post := _) (ct_X8_goWeeks hw (⟨by omega, hs10, by omega, by omega⟩ : rw56 w (m + 10) 94) (by omega) H6 G7) kX8_140 (by decide) (by decide) rfl rfl (Nat.le_of_ble_eq_true rfl) (D (27, .invokestatic 140, 3) (mg 16 rfl)) rfl (fun v16 H14 G15 hv16 => ?_)
    obtain ⟨rfl, rfl, rfl⟩ := hv16
    show X k w _ 30 [some (.ref (wA w (m)))] [] (wks (m + 10) (nV B n (tE B n (p))) H6) G7
    refine X_iconst (v := nI (1)) C (D (30, .iconst 1, 1) (mg 17 rfl)) (by decide) ?_
    exact X_zret C (D (31, .ireturn, 1) (mg 18 rfl)) rfl (have hr : pWee B n (tE B n (p)) z = (true, tE B n (tE B n (p)), nWks (nV B n (tE B n (p))) (z)) := (by unfold pWee; exact (if_pos (by assumption))); pBr_t hr (xM_t hr (fun q i z1 z2 z3 => by rw [wks_ne _ (by omega), f10 _ _ (by omega) (by omega), f4 _ _ (by omega)]) ⟨(((wks_ne _ (by omega) _ _)).trans ae11), (((wks_ne _ (by omega) _ _)).trans be11), (((wks_ne _ (by omega) _ _)).trans ce11), (fun w => by rw [wks_ne _ (by omega)]; exact de11 w)⟩ ⟨(((((wks_ne _ (by omega) _ _)).trans (f10 _ _ (by omega) (by omega))).trans (f4 _ _ (by omega))).trans ao0), (((((wks_ne _ (by omega) _ _)).trans (f10 _ _ (by omega) (by omega))).trans (f4 _ _ (by omega))).trans ao1), (((((wks_ne _ (by omega) _ _)).trans (f10 _ _ (by omega) (by omega))).trans (f4 _ _ (by omega))).trans ao2), z.2.1, by omega, (((((wks_ne _ (by omega) _ _)).trans (f10 _ _ (by omega) (by omega))).trans (f4 _ _ (by omega))).trans hrc.2.1)⟩ (rM_wks _ (rM_q (fun i => f10 _ _ (by omega) (by omega)) (rM_q (fun i => f4 _ _ (by omega)) hrc)) hok hw29 (by omega)).1 (nWks_ok _ hok) ⟨_, (rM_wks _ (rM_q (fun i => f10 _ _ (by omega) (by omega)) (rM_q (fun i => f4 _ _ (by omega)) hrc)) hok hw29 (by omega)).2, by omega⟩))
  · skip
    have hNy9 : ¬ isN B n (tE B n (p)) (1) (99) := fun u_ => (hiy9).mpr u_ q12
    have hhy9 : H6 = H1 := hzy9 q12
    rw [hhy9]
    refine X_iconst (v := nI (0)) C (D (15, .iconst 0, 1) (mg 8 rfl)) (by decide) ?_
    exact X_zret C (D (16, .ireturn, 1) (mg 9 rfl)) rfl (have hr : pWee B n (tE B n (p)) z = (false, tE B n (p), z) := (by unfold pWee; exact (if_neg (by assumption))); pBr_f hr (xM_f hr (fun q i z1 z2 z3 => by rw [f4 _ _ (by omega)]) ⟨(ae5), (be5), (ce5), de5⟩ ⟨(((f4 _ _ (by omega))).trans ao0), (((f4 _ _ (by omega))).trans ao1), (((f4 _ _ (by omega))).trans ao2), z.2.1, by omega, (((f4 _ _ (by omega))).trans hrc.2.1)⟩))
