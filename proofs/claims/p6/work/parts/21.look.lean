/-! THE CLASS, 4: the object, refusals, calls that only look -/
/-- Text at place t: bytes t + 1, nave t + 2; fields 2 size, 3 place, 4 start, 5 token, 6 value -/
def shX (w : Kw) (t : Nat) : Prop := t + 4 < wN w ∧ wS w t = .inl (3, [t + 1 + 2, t + 2 + 2, 0, 0, 0, 0, 0]) ∧ wS w (t + 1) = .inr (.inl (0, 150)) ∧ shN w (t + 2)
/-- the class's object at place x -/
def shC (w : Kw) (x : Nat) : Prop := x + 38 < wN w ∧ wS w x = .inl (5, [x + 1 + 2, x + 9 + 2, x + 26 + 2, x + 27 + 2, x + 30 + 2, x + 33 + 2, x + 38 + 2, 1, 1, 0, 0, 0]) ∧ shT w (x + 1) ∧ wS w (x + 9) = .inr (.inr [x + 10, x + 18]) ∧ shT w (x + 10) ∧ shT w (x + 18) ∧ wS w (x + 26) = .inr (.inl (1, 2)) ∧ shN w (x + 27) ∧ shY w (x + 30) ∧ shX w (x + 33) ∧ wS w (x + 38) = .inr (.inl (0, 6))
def tOk (h : xI) (t : Nat) : Prop := atOk h (t + 1) ∧ paOk h (t + 4) ∧ (∃ n, n ≤ 5 ∧ h t 4 = nI n) ∧ ∃ n, n ≤ 6 ∧ h t 5 = nI n
def cOk (h : xI) (x : Nat) : Prop := tOk h (x + 1) ∧ tOk h (x + 10) ∧ tOk h (x + 18) ∧ (∃ n, n ≤ 150 ∧ h (x + 33) 2 = nI n) ∧ atOk h (x + 35)
/-- what calls that keep KIND, STONY, SEEN, MARKS, TEXT and IMAGES may change -/
def SW (x q i : Nat) : Prop := (q = x ∧ 9 ≤ i) ∨ (q = x + 2 ∧ (i = 3 ∨ i = 4)) ∨ q = x + 4 ∨ q = x + 5 ∨ q = x + 6 ∨ (x + 27 ≤ q ∧ q ≤ x + 32) ∨ q = x + 38
def wI (x : Nat) (h h' : xI) : Prop := (∀ q i, ¬ SW x q i → h' q i = h q i) ∧ atOk h' (x + 2) ∧ paOk h' (x + 5)
theorem wI_r {x : Nat} {h : xI} (hI : cOk h x) : wI x h h := ⟨fun _ _ _ => rfl, hI.1.1, hI.1.2.1⟩
theorem wI_t {x : Nat} {h h1 h2 : xI} (a : wI x h h1) (b : wI x h1 h2) : wI x h h2 := ⟨fun q i z => (b.1 q i z).trans (a.1 q i z), b.2⟩
theorem paOk_k {h h' : xI} {p : Nat} (e : ∀ q i, q = p ∨ q = p + 1 → h' q i = h q i) (H : paOk h p) : paOk h' p := by
  obtain ⟨⟨n, hn, e1⟩, e2⟩ := H
  refine ⟨⟨n, hn, by rw [e p 1 (Or.inl rfl)]; exact e1⟩, fun r hr => ?_⟩
  obtain ⟨c, hc, e3⟩ := e2 r hr
  exact ⟨c, hc, by rw [e (p + 1) _ (Or.inr rfl)]; exact e3⟩
theorem tOk_k {h h' : xI} {t : Nat} (e : ∀ q i, t ≤ q → q ≤ t + 7 → h' q i = h q i) (H : tOk h t) : tOk h' t := by
  obtain ⟨⟨c, hc, e1⟩, e2, ⟨n, hn, e3⟩, ⟨n', hn', e4⟩⟩ := H
  exact ⟨⟨c, hc, by rw [e _ _ (by omega) (by omega)]; exact e1⟩, paOk_k (fun q i z => e q i (by omega) (by omega)) e2, ⟨n, hn, by rw [e _ _ (by omega) (by omega)]; exact e3⟩, ⟨n', hn', by rw [e _ _ (by omega) (by omega)]; exact e4⟩⟩
theorem cOk_w {x : Nat} {h h' : xI} (hI : cOk h x) (a : wI x h h') : cOk h' x := by
  obtain ⟨a1, a2, a3⟩ := a
  obtain ⟨⟨-, -, ⟨n, hn, e3⟩, ⟨n', hn', e4⟩⟩, b2, b3, ⟨n'', hn'', e5⟩, ⟨c6, hc6, e6⟩⟩ := hI
  refine ⟨⟨a2, a3, ⟨n, hn, ?_⟩, ⟨n', hn', ?_⟩⟩, tOk_k (fun q i z1 z2 => a1 q i ?_) b2, tOk_k (fun q i z1 z2 => a1 q i ?_) b3, ⟨n'', hn'', ?_⟩, ⟨c6, hc6, ?_⟩⟩
  · rw [a1 _ _ (by unfold SW; omega)]; exact e3
  · rw [a1 _ _ (by unfold SW; omega)]; exact e4
  · unfold SW; omega
  · unfold SW; omega
  · rw [a1 _ _ (by unfold SW; omega)]; exact e5
  · rw [a1 _ _ (by unfold SW; omega)]; exact e6
theorem csH_at (h : xI) (n j : Nat) : csH h n j n 3 = nI j := by
  unfold csH
  split
  · rw [u2_ne _ _ _ _ (by omega), u2_s]
  · rw [u2_s]
theorem csH_ne (h : xI) (n j : Nat) {q i : Nat} (hn : ¬ (q = n ∧ i = 3) ∧ q ≠ n + 2) : csH h n j q i = h q i := by
  unfold csH
  split
  · rw [u2_ne _ _ _ _ (by omega), u2_ne _ _ _ _ (by omega)]
  · rw [u2_ne _ _ _ _ (by omega)]
theorem cwH_ne (h : xI) (n : Nat) {q i : Nat} (hn : ¬ (q = n ∧ i = 4) ∧ q ≠ n + 2) : cwH h n q i = h q i := by
  unfold cwH
  rw [u2_ne _ _ _ _ (by omega), mp_ne _ _ _ _ _ (by omega)]
theorem ccH_ne (h : xI) (n o : Nat) {q i : Nat} (hn : (q ≠ n ∨ i < 2 ∨ 4 < i) ∧ q ≠ n + 1 ∧ q ≠ n + 2) : ccH h n o q i = h q i := by
  unfold ccH cc2 cc1 cc0
  rw [u2_ne _ _ _ _ (by omega), u2_ne _ _ _ _ (by omega), u2_ne _ _ _ _ (by omega), cpS_ne _ _ _ _ _ _ (by omega), cpS_ne _ _ _ _ _ _ (by omega)]
theorem ccH_at (h : xI) (n o : Nat) (hn : o ≠ n ∧ o ≠ n + 1 ∧ o ≠ n + 2) : ccH h n o n 3 = h o 3 := by
  unfold ccH cc2 cc1 cc0
  rw [u2_ne _ _ _ _ (by omega), u2_s, u2_ne _ _ _ _ (by omega), cpS_ne _ _ _ _ _ _ (by omega), cpS_ne _ _ _ _ _ _ (by omega)]
theorem cbH_at (h : xI) (n : Nat) (kd c : Int32) : cbH h n kd c n 3 = c := by
  unfold cbH
  rw [u2_ne _ _ _ _ (by omega), u2_s]
theorem cbH_ne (h : xI) (n : Nat) (kd c : Int32) {q i : Nat} (hn : (q ≠ n ∨ i < 2 ∨ 4 < i) ∧ q ≠ n + 1 ∧ q ≠ n + 2) : cbH h n kd c q i = h q i := by
  unfold cbH
  rw [u2_ne _ _ _ _ (by omega), u2_ne _ _ _ _ (by omega), u2_ne _ _ _ _ (by omega), mp_ne _ _ _ _ _ (by omega), mp_ne _ _ _ _ _ (by omega)]
def rcH (h : xI) (x s : Nat) : xI := u2 h x s (h x s + nI 1)
theorem rcH_ne (h : xI) (x s : Nat) {q i : Nat} (hn : ¬ (q = x ∧ i = s)) : rcH h x s q i = h q i := if_neg hn
set_option maxHeartbeats 4000000 in
set_option maxRecDepth 100000 in
theorem ct_X7_refuseBad {l : Launch} {w : Kw} (hw : wOk w) {x : Nat} (hC : shC w x) (h : xI) (g : xJ)  : Ct l w yX7_refuseBad cX7_refuseBad 1 (some .int) 0 0 [.ref (wA w (x))] h g (px (some (.int (-2 : Int32))) (rcH h x 9) g) := by
  refine Ct_of (ls := [some (.ref (wA w (x)))]) (by decide) hw (Nat.le_of_ble_eq_true rfl) rfl (fun k hkl C => ?_)
  have C : Cx k w cX7_refuseBad RX7 1 (some .int) 0 0 := C
  have D := dtX7_refuseBad
  subst hkl
  have hC0 := hC
  obtain ⟨hxn, hsx, hT, hsi, hTa, hTb, hsk, hNs, hY, hX, hsv⟩ := hC
  have hY2 := hY.1
  have hX2 := hX.1
  refine X_aload_n C 0 (D (0, .aload_n 0, 1) (mg 0 rfl)) rfl rfl ?_
  refine X_dup C (D (1, .dup, 1) (mg 1 rfl)) rfl ?_
  refine X_get (v := .int (h (x) 9)) C (x) 9 (by omega) hsx rfl rfl (by decide) inX7 fX7_253 rfl (D (2, .getfield 253, 3) (mg 2 rfl)) rfl ?_
  refine X_iconst (v := nI (1)) C (D (5, .iconst 1, 1) (mg 3 rfl)) (by decide) ?_
  refine X_iadd C (D (6, .iadd, 1) (mg 4 rfl)) ?_
  refine X_putI C (x) 9 tyX7 tyX7_ok nmX7 (by omega) hsx rfl rfl (by decide) inX7 fX7_253 rfl rfl (by decide +kernel) (D (7, .putfield 253, 3) (mg 5 rfl)) ?_
  refine X_bipush (v := (-2 : Int32)) C (D (10, .bipush (-2), 2) (mg 6 rfl)) (by decide) ?_
  exact X_iret C (D (12, .ireturn, 1) (mg 7 rfl)) ⟨rfl, rfl, rfl⟩
set_option maxHeartbeats 4000000 in
set_option maxRecDepth 100000 in
theorem ct_X7_refuseBadTen {l : Launch} {w : Kw} (hw : wOk w) {x : Nat} (hC : shC w x) (h : xI) (g : xJ)  : Ct l w yX7_refuseBadTen cX7_refuseBadTen 1 (some .int) 0 0 [.ref (wA w (x))] h g (px (some (.int (-10 : Int32))) (rcH h x 9) g) := by
  refine Ct_of (ls := [some (.ref (wA w (x)))]) (by decide) hw (Nat.le_of_ble_eq_true rfl) rfl (fun k hkl C => ?_)
  have C : Cx k w cX7_refuseBadTen RX7 1 (some .int) 0 0 := C
  have D := dtX7_refuseBadTen
  subst hkl
  have hC0 := hC
  obtain ⟨hxn, hsx, hT, hsi, hTa, hTb, hsk, hNs, hY, hX, hsv⟩ := hC
  have hY2 := hY.1
  have hX2 := hX.1
  refine X_aload_n C 0 (D (0, .aload_n 0, 1) (mg 0 rfl)) rfl rfl ?_
  refine X_dup C (D (1, .dup, 1) (mg 1 rfl)) rfl ?_
  refine X_get (v := .int (h (x) 9)) C (x) 9 (by omega) hsx rfl rfl (by decide) inX7 fX7_253 rfl (D (2, .getfield 253, 3) (mg 2 rfl)) rfl ?_
  refine X_iconst (v := nI (1)) C (D (5, .iconst 1, 1) (mg 3 rfl)) (by decide) ?_
  refine X_iadd C (D (6, .iadd, 1) (mg 4 rfl)) ?_
  refine X_putI C (x) 9 tyX7 tyX7_ok nmX7 (by omega) hsx rfl rfl (by decide) inX7 fX7_253 rfl rfl (by decide +kernel) (D (7, .putfield 253, 3) (mg 5 rfl)) ?_
  refine X_bipush (v := (-10 : Int32)) C (D (10, .bipush (-10), 2) (mg 6 rfl)) (by decide) ?_
  exact X_iret C (D (12, .ireturn, 1) (mg 7 rfl)) ⟨rfl, rfl, rfl⟩
set_option maxHeartbeats 4000000 in
set_option maxRecDepth 100000 in
theorem ct_X7_refuseNo {l : Launch} {w : Kw} (hw : wOk w) {x : Nat} (hC : shC w x) (h : xI) (g : xJ)  : Ct l w yX7_refuseNo cX7_refuseNo 1 (some .int) 0 0 [.ref (wA w (x))] h g (px (some (.int (-3 : Int32))) (rcH h x 10) g) := by
  refine Ct_of (ls := [some (.ref (wA w (x)))]) (by decide) hw (Nat.le_of_ble_eq_true rfl) rfl (fun k hkl C => ?_)
  have C : Cx k w cX7_refuseNo RX7 1 (some .int) 0 0 := C
  have D := dtX7_refuseNo
  subst hkl
  have hC0 := hC
  obtain ⟨hxn, hsx, hT, hsi, hTa, hTb, hsk, hNs, hY, hX, hsv⟩ := hC
  have hY2 := hY.1
  have hX2 := hX.1
  refine X_aload_n C 0 (D (0, .aload_n 0, 1) (mg 0 rfl)) rfl rfl ?_
  refine X_dup C (D (1, .dup, 1) (mg 1 rfl)) rfl ?_
  refine X_get (v := .int (h (x) 10)) C (x) 10 (by omega) hsx rfl rfl (by decide) inX7 fX7_256 rfl (D (2, .getfield 256, 3) (mg 2 rfl)) rfl ?_
  refine X_iconst (v := nI (1)) C (D (5, .iconst 1, 1) (mg 3 rfl)) (by decide) ?_
  refine X_iadd C (D (6, .iadd, 1) (mg 4 rfl)) ?_
  refine X_putI C (x) 10 tyX7 tyX7_ok nmX7 (by omega) hsx rfl rfl (by decide) inX7 fX7_256 rfl rfl (by decide +kernel) (D (7, .putfield 256, 3) (mg 5 rfl)) ?_
  refine X_bipush (v := (-3 : Int32)) C (D (10, .bipush (-3), 2) (mg 6 rfl)) (by decide) ?_
  exact X_iret C (D (12, .ireturn, 1) (mg 7 rfl)) ⟨rfl, rfl, rfl⟩
set_option maxHeartbeats 4000000 in
set_option maxRecDepth 100000 in
theorem ct_X7_refuseFull {l : Launch} {w : Kw} (hw : wOk w) {x : Nat} (hC : shC w x) (h : xI) (g : xJ)  : Ct l w yX7_refuseFull cX7_refuseFull 1 (some .int) 0 0 [.ref (wA w (x))] h g (px (some (.int (-4 : Int32))) (rcH h x 11) g) := by
  refine Ct_of (ls := [some (.ref (wA w (x)))]) (by decide) hw (Nat.le_of_ble_eq_true rfl) rfl (fun k hkl C => ?_)
  have C : Cx k w cX7_refuseFull RX7 1 (some .int) 0 0 := C
  have D := dtX7_refuseFull
  subst hkl
  have hC0 := hC
  obtain ⟨hxn, hsx, hT, hsi, hTa, hTb, hsk, hNs, hY, hX, hsv⟩ := hC
  have hY2 := hY.1
  have hX2 := hX.1
  refine X_aload_n C 0 (D (0, .aload_n 0, 1) (mg 0 rfl)) rfl rfl ?_
  refine X_dup C (D (1, .dup, 1) (mg 1 rfl)) rfl ?_
  refine X_get (v := .int (h (x) 11)) C (x) 11 (by omega) hsx rfl rfl (by decide) inX7 fX7_259 rfl (D (2, .getfield 259, 3) (mg 2 rfl)) rfl ?_
  refine X_iconst (v := nI (1)) C (D (5, .iconst 1, 1) (mg 3 rfl)) (by decide) ?_
  refine X_iadd C (D (6, .iadd, 1) (mg 4 rfl)) ?_
  refine X_putI C (x) 11 tyX7 tyX7_ok nmX7 (by omega) hsx rfl rfl (by decide) inX7 fX7_259 rfl rfl (by decide +kernel) (D (7, .putfield 259, 3) (mg 5 rfl)) ?_
  refine X_bipush (v := (-4 : Int32)) C (D (10, .bipush (-4), 2) (mg 6 rfl)) (by decide) ?_
  exact X_iret C (D (12, .ireturn, 1) (mg 7 rfl)) ⟨rfl, rfl, rfl⟩
theorem sw_0_5 (x : Int32) : x = 0 ∨ x = 1 ∨ x = 2 ∨ x = 3 ∨ x = 4 ∨ x = 5 ∨ (x.toInt < 0 ∨ 5 < x.toInt) := by
  have e : ∀ y : Int32, x = y ↔ x.toInt = y.toInt := fun y => Int32.toInt_inj.symm
  simp only [e, show (0 : Int32).toInt = 0 from by decide, show (1 : Int32).toInt = 1 from by decide, show (2 : Int32).toInt = 2 from by decide, show (3 : Int32).toInt = 3 from by decide, show (4 : Int32).toInt = 4 from by decide, show (5 : Int32).toInt = 5 from by decide]
  omega
set_option maxHeartbeats 4000000 in
set_option maxRecDepth 100000 in
theorem ct_X7_of {l : Launch} {w : Kw} (hw : wOk w) {x : Nat} (hC : shC w x) (a1 a2 : Int32) (h : xI) (g : xJ) (hI : cOk h x) : Ct l w yX7_of cX7_of 3 (some .int) 3 68 [.ref (wA w (x)), .int (a1), .int (a2)] h g (pQ (wI x h)) := by
  refine Ct_of (ls := [some (.ref (wA w (x))), some (.int (a1)), some (.int (a2))]) (by decide) hw (Nat.le_of_ble_eq_true rfl) rfl (fun k hkl C => ?_)
  have C : Cx k w cX7_of RX7 3 (some .int) 3 68 := C
  have D := dtX7_of
  subst hkl
  have hC0 := hC
  obtain ⟨hxn, hsx, hT, hsi, hTa, hTb, hsk, hNs, hY, hX, hsv⟩ := hC
  have hY2 := hY.1
  have hX2 := hX.1
  have hI0 := hI
  obtain ⟨⟨⟨c0, hc0, hat⟩, hpa, ⟨ns, hns, hse⟩, ⟨nm, hnm, hma⟩⟩, -, -, ⟨nt, hnt, htx⟩, ⟨ct, hct, hatx⟩⟩ := hI
  have hI := hI0
  refine X_iload_n C 1 (D (0, .iload_n 1, 1) (mg 0 rfl)) rfl rfl ?_
  refine X_bipush (v := nI (25)) C (D (1, .bipush 25, 2) (mg 1 rfl)) (by decide) ?_
  refine X_cS (As := [.int (a1), .int (nI (25))]) (st := []) C (post := _) (ct_X7_isBelow hw (a1) (B := 25) (by decide) h g) kX7_53 (by decide) (by decide) rfl rfl (Nat.le_of_ble_eq_true rfl) (D (3, .invokestatic 53, 3) (mg 2 rfl)) rfl (fun v3 H1 G2 hv3 => ?_)
  obtain ⟨rfl, rfl, rfl⟩ := hv3
  show X k w _ 6 [some (.ref (wA w (x))), some (.int (a1)), some (.int (a2))] [.int (if 0 ≤ (a1).toInt ∧ (a1).toInt < ((25 : Nat) : Int) then 1 else 0)] h g
  refine X_if_ne (tgt := 14) C (D (6, .ifCond .ne 8, 3) (mg 3 rfl)) (by decide) (fun q4 => ?_) (fun q4 => ?_)
  · skip
    have q4 : (0 ≤ (a1).toInt ∧ (a1).toInt < ((25 : Nat) : Int)) := bz1.mp q4
    obtain ⟨n5, hn5, rfl⟩ := nI_i (x := a1) (n := 25) q4.1 (by omega)
    refine X_iload_n C 2 (D (14, .iload_n 2, 1) (mg 7 rfl)) rfl rfl ?_
    rcases sw_0_5 (a2) with q6 | q6 | q6 | q6 | q6 | q6 | q6
    · refine X_swIn (tgt := 52) C (D (15, .tableswitch 111 0 5 #[37, 50, 62, 74, 86, 99], 37) (mg 8 rfl)) (0) (by rw [q6]; decide) (by decide) (by decide) rfl (by decide) ?_
      refine X_aload_n C 0 (D (52, .aload_n 0, 1) (mg 9 rfl)) rfl rfl ?_
      refine X_get (v := .ref (wA w (x + 1))) C (x) 0 (by omega) hsx rfl rfl (by decide) inX7 fX7_10 rfl (D (53, .getfield 10, 3) (mg 10 rfl)) rfl ?_
      refine X_get (v := .ref (wA w (x + 2))) C (x + 1) 0 (by omega) hT.2.1 rfl rfl (by decide) inX4 fX7_61 rfl (D (56, .getfield 61, 3) (mg 11 rfl)) rfl ?_
      refine X_get (v := .ref (wA w (x + 3))) C (x + 2) 0 (by omega) hT.2.2.1.2.1 rfl rfl (by decide) inX1 fX7_87 rfl (D (59, .getfield 87, 3) (mg 12 rfl)) rfl ?_
      refine X_iload_n C 1 (D (62, .iload_n 1, 1) (mg 13 rfl)) rfl rfl ?_
      refine X_iald (v := h (x + 3) (n5)) C (x + 3) (by omega) hT.2.2.1.2.2.1 (vp_in_nI (by omega) (by omega)) (D (63, .iaload, 1) (mg 14 rfl)) (by rw [nI_clamp (by omega)]) ?_
      exact X_iret C (D (64, .ireturn, 1) (mg 15 rfl)) ⟨⟨_, rfl⟩, (wI_r hI)⟩
    · refine X_swIn (tgt := 65) C (D (15, .tableswitch 111 0 5 #[37, 50, 62, 74, 86, 99], 37) (mg 8 rfl)) (1) (by rw [q6]; decide) (by decide) (by decide) rfl (by decide) ?_
      refine X_aload_n C 0 (D (65, .aload_n 0, 1) (mg 16 rfl)) rfl rfl ?_
      refine X_get (v := .ref (wA w (x + 1))) C (x) 0 (by omega) hsx rfl rfl (by decide) inX7 fX7_10 rfl (D (66, .getfield 10, 3) (mg 17 rfl)) rfl ?_
      refine X_get (v := .ref (wA w (x + 2))) C (x + 1) 0 (by omega) hT.2.1 rfl rfl (by decide) inX4 fX7_61 rfl (D (69, .getfield 61, 3) (mg 18 rfl)) rfl ?_
      refine X_iload_n C 1 (D (72, .iload_n 1, 1) (mg 19 rfl)) rfl rfl ?_
      refine X_cV (As := [.int (nI (n5))]) (st := []) C (post := _) (x + 2) (by omega) hT.2.2.1.2.1 rfl (ct_X1_kindIn hw (n := x + 2) hT.2.2.1 (j := n5) (by omega) h g) kX7_148 (by decide) (by decide) rfl rfl (Nat.le_of_ble_eq_true rfl) (D (73, .invokevirtual 148, 3) (mg 20 rfl)) rfl (fun v9 H7 G8 hv9 => ?_)
      obtain ⟨rfl, rfl, rfl⟩ := hv9
      show X k w _ 76 [some (.ref (wA w (x))), some (.int (nI (n5))), some (.int (a2))] [.int (cK (h (x + 4) (n5)))] h g
      exact X_iret C (D (76, .ireturn, 1) (mg 21 rfl)) ⟨⟨_, rfl⟩, (wI_r hI)⟩
    · refine X_swIn (tgt := 77) C (D (15, .tableswitch 111 0 5 #[37, 50, 62, 74, 86, 99], 37) (mg 8 rfl)) (2) (by rw [q6]; decide) (by decide) (by decide) rfl (by decide) ?_
      refine X_aload_n C 0 (D (77, .aload_n 0, 1) (mg 22 rfl)) rfl rfl ?_
      refine X_get (v := .ref (wA w (x + 1))) C (x) 0 (by omega) hsx rfl rfl (by decide) inX7 fX7_10 rfl (D (78, .getfield 10, 3) (mg 23 rfl)) rfl ?_
      refine X_get (v := .ref (wA w (x + 2))) C (x + 1) 0 (by omega) hT.2.1 rfl rfl (by decide) inX4 fX7_61 rfl (D (81, .getfield 61, 3) (mg 24 rfl)) rfl ?_
      refine X_iload_n C 1 (D (84, .iload_n 1, 1) (mg 25 rfl)) rfl rfl ?_
      refine X_cV (As := [.int (nI (n5))]) (st := []) C (post := _) (x + 2) (by omega) hT.2.2.1.2.1 rfl (ct_X1_depthIn hw (n := x + 2) hT.2.2.1 (j := n5) (by omega) h g) kX7_151 (by decide) (by decide) rfl rfl (Nat.le_of_ble_eq_true rfl) (D (85, .invokevirtual 151, 3) (mg 26 rfl)) rfl (fun v12 H10 G11 hv12 => ?_)
      obtain ⟨rfl, rfl, rfl⟩ := hv12
      show X k w _ 88 [some (.ref (wA w (x))), some (.int (nI (n5))), some (.int (a2))] [.int (cD (h (x + 4) (n5)))] h g
      exact X_iret C (D (88, .ireturn, 1) (mg 27 rfl)) ⟨⟨_, rfl⟩, (wI_r hI)⟩
    · refine X_swIn (tgt := 89) C (D (15, .tableswitch 111 0 5 #[37, 50, 62, 74, 86, 99], 37) (mg 8 rfl)) (3) (by rw [q6]; decide) (by decide) (by decide) rfl (by decide) ?_
      refine X_aload_n C 0 (D (89, .aload_n 0, 1) (mg 28 rfl)) rfl rfl ?_
      refine X_get (v := .ref (wA w (x + 1))) C (x) 0 (by omega) hsx rfl rfl (by decide) inX7 fX7_10 rfl (D (90, .getfield 10, 3) (mg 29 rfl)) rfl ?_
      refine X_get (v := .ref (wA w (x + 2))) C (x + 1) 0 (by omega) hT.2.1 rfl rfl (by decide) inX4 fX7_61 rfl (D (93, .getfield 61, 3) (mg 30 rfl)) rfl ?_
      refine X_iload_n C 1 (D (96, .iload_n 1, 1) (mg 31 rfl)) rfl rfl ?_
      refine X_cV (As := [.int (nI (n5))]) (st := []) C (post := _) (x + 2) (by omega) hT.2.2.1.2.1 rfl (ct_X1_ageIn hw (n := x + 2) hT.2.2.1 (j := n5) (by omega) h g) kX7_154 (by decide) (by decide) rfl rfl (Nat.le_of_ble_eq_true rfl) (D (97, .invokevirtual 154, 3) (mg 32 rfl)) rfl (fun v15 H13 G14 hv15 => ?_)
      obtain ⟨rfl, rfl, rfl⟩ := hv15
      show X k w _ 100 [some (.ref (wA w (x))), some (.int (nI (n5))), some (.int (a2))] [.int (cA (h (x + 4) (n5)))] h g
      exact X_iret C (D (100, .ireturn, 1) (mg 33 rfl)) ⟨⟨_, rfl⟩, (wI_r hI)⟩
    · refine X_swIn (tgt := 101) C (D (15, .tableswitch 111 0 5 #[37, 50, 62, 74, 86, 99], 37) (mg 8 rfl)) (4) (by rw [q6]; decide) (by decide) (by decide) rfl (by decide) ?_
      refine X_aload_n C 0 (D (101, .aload_n 0, 1) (mg 34 rfl)) rfl rfl ?_
      refine X_get (v := .ref (wA w (x + 1))) C (x) 0 (by omega) hsx rfl rfl (by decide) inX7 fX7_10 rfl (D (102, .getfield 10, 3) (mg 35 rfl)) rfl ?_
      refine X_get (v := .ref (wA w (x + 2))) C (x + 1) 0 (by omega) hT.2.1 rfl rfl (by decide) inX4 fX7_61 rfl (D (105, .getfield 61, 3) (mg 36 rfl)) rfl ?_
      refine X_iload_n C 1 (D (108, .iload_n 1, 1) (mg 37 rfl)) rfl rfl ?_
      refine X_iconst (v := nI (0)) C (D (109, .iconst 0, 1) (mg 38 rfl)) (by decide) ?_
      refine X_cV (As := [.int (nI (n5)), .int (nI (0))]) (st := []) C (post := _) (x + 2) (by omega) hT.2.2.1.2.1 rfl (ct_X1_heightAfter hw (n := x + 2) hT.2.2.1 (j := n5) (by omega) (nI (0)) h g) kX7_129 (by decide) (by decide) rfl rfl (Nat.le_of_ble_eq_true rfl) (D (110, .invokevirtual 129, 3) (mg 39 rfl)) rfl (fun v18 H16 G17 hv18 => ?_)
      obtain ⟨⟨y19, rfl⟩, rfl, rfl⟩ := hv18
      show X k w _ 113 [some (.ref (wA w (x))), some (.int (nI (n5))), some (.int (a2))] [.int (y19)] h g
      exact X_iret C (D (113, .ireturn, 1) (mg 40 rfl)) ⟨⟨_, rfl⟩, (wI_r hI)⟩
    · refine X_swIn (tgt := 114) C (D (15, .tableswitch 111 0 5 #[37, 50, 62, 74, 86, 99], 37) (mg 8 rfl)) (5) (by rw [q6]; decide) (by decide) (by decide) rfl (by decide) ?_
      refine X_aload_n C 0 (D (114, .aload_n 0, 1) (mg 41 rfl)) rfl rfl ?_
      refine X_get (v := .ref (wA w (x + 1))) C (x) 0 (by omega) hsx rfl rfl (by decide) inX7 fX7_10 rfl (D (115, .getfield 10, 3) (mg 42 rfl)) rfl ?_
      refine X_get (v := .ref (wA w (x + 2))) C (x + 1) 0 (by omega) hT.2.1 rfl rfl (by decide) inX4 fX7_61 rfl (D (118, .getfield 61, 3) (mg 43 rfl)) rfl ?_
      refine X_iload_n C 1 (D (121, .iload_n 1, 1) (mg 44 rfl)) rfl rfl ?_
      refine X_cV (As := [.int (nI (n5))]) (st := []) C (post := _) (x + 2) (by omega) hT.2.2.1.2.1 rfl (ct_X1_dragIn hw (n := x + 2) hT.2.2.1 (j := n5) (by omega) h g) kX7_157 (by decide) (by decide) rfl rfl (Nat.le_of_ble_eq_true rfl) (D (122, .invokevirtual 157, 3) (mg 45 rfl)) rfl (fun v22 H20 G21 hv22 => ?_)
      obtain ⟨⟨y23, rfl⟩, rfl, rfl⟩ := hv22
      show X k w _ 125 [some (.ref (wA w (x))), some (.int (nI (n5))), some (.int (a2))] [.int (y23)] h g
      exact X_iret C (D (125, .ireturn, 1) (mg 46 rfl)) ⟨⟨_, rfl⟩, (wI_r hI)⟩
    · refine X_swOut (tgt := 126) C (D (15, .tableswitch 111 0 5 #[37, 50, 62, 74, 86, 99], 37) (mg 8 rfl)) q6 (by decide) ?_
      refine X_aload_n C 0 (D (126, .aload_n 0, 1) (mg 47 rfl)) rfl rfl ?_
      refine X_cV (As := []) (st := []) C (post := _) (x) (by omega) hsx rfl (ct_X7_refuseBad hw hC0 h g) kX7_57 (by decide) (by decide) rfl rfl (Nat.le_of_ble_eq_true rfl) (D (127, .invokevirtual 57, 3) (mg 48 rfl)) rfl (fun v26 H24 G25 hv26 => ?_)
      obtain ⟨rfl, rfl, rfl⟩ := hv26
      show X k w _ 130 [some (.ref (wA w (x))), some (.int (nI (n5))), some (.int (a2))] [.int ((-2 : Int32))] (rcH h (x) 9) g
      exact X_iret C (D (130, .ireturn, 1) (mg 49 rfl)) ⟨⟨_, rfl⟩, ⟨fun q i z0 => by have z := z0; unfold SW at z; rw [rcH_ne _ _ _ (by omega)], ⟨c0, (by omega), (((rcH_ne _ _ _ (by omega))).trans hat)⟩, (paOk_k (fun q i z => by rw [rcH_ne _ _ _ (by omega)]) hpa)⟩⟩
  · skip
    have q4 : ¬ (0 ≤ (a1).toInt ∧ (a1).toInt < ((25 : Nat) : Int)) := bz0.mp q4
    refine X_aload_n C 0 (D (9, .aload_n 0, 1) (mg 4 rfl)) rfl rfl ?_
    refine X_cV (As := []) (st := []) C (post := _) (x) (by omega) hsx rfl (ct_X7_refuseBad hw hC0 h g) kX7_57 (by decide) (by decide) rfl rfl (Nat.le_of_ble_eq_true rfl) (D (10, .invokevirtual 57, 3) (mg 5 rfl)) rfl (fun v29 H27 G28 hv29 => ?_)
    obtain ⟨rfl, rfl, rfl⟩ := hv29
    show X k w _ 13 [some (.ref (wA w (x))), some (.int (a1)), some (.int (a2))] [.int ((-2 : Int32))] (rcH h (x) 9) g
    exact X_iret C (D (13, .ireturn, 1) (mg 6 rfl)) ⟨⟨_, rfl⟩, ⟨fun q i z0 => by have z := z0; unfold SW at z; rw [rcH_ne _ _ _ (by omega)], ⟨c0, (by omega), (((rcH_ne _ _ _ (by omega))).trans hat)⟩, (paOk_k (fun q i z => by rw [rcH_ne _ _ _ (by omega)]) hpa)⟩⟩
set_option maxHeartbeats 4000000 in
set_option maxRecDepth 100000 in
theorem ct_X7_high {l : Launch} {w : Kw} (hw : wOk w) {x : Nat} (hC : shC w x) (a1 a2 : Int32) (h : xI) (g : xJ) (hI : cOk h x) : Ct l w yX7_high cX7_high 3 (some .int) 3 68 [.ref (wA w (x)), .int (a1), .int (a2)] h g (pQ (wI x h)) := by
  refine Ct_of (ls := [some (.ref (wA w (x))), some (.int (a1)), some (.int (a2))]) (by decide) hw (Nat.le_of_ble_eq_true rfl) rfl (fun k hkl C => ?_)
  have C : Cx k w cX7_high RX7 3 (some .int) 3 68 := C
  have D := dtX7_high
  subst hkl
  have hC0 := hC
  obtain ⟨hxn, hsx, hT, hsi, hTa, hTb, hsk, hNs, hY, hX, hsv⟩ := hC
  have hY2 := hY.1
  have hX2 := hX.1
  have hI0 := hI
  obtain ⟨⟨⟨c0, hc0, hat⟩, hpa, ⟨ns, hns, hse⟩, ⟨nm, hnm, hma⟩⟩, -, -, ⟨nt, hnt, htx⟩, ⟨ct, hct, hatx⟩⟩ := hI
  have hI := hI0
  refine X_iload_n C 1 (D (0, .iload_n 1, 1) (mg 0 rfl)) rfl rfl ?_
  refine X_bipush (v := nI (25)) C (D (1, .bipush 25, 2) (mg 1 rfl)) (by decide) ?_
  refine X_cS (As := [.int (a1), .int (nI (25))]) (st := []) C (post := _) (ct_X7_isBelow hw (a1) (B := 25) (by decide) h g) kX7_53 (by decide) (by decide) rfl rfl (Nat.le_of_ble_eq_true rfl) (D (3, .invokestatic 53, 3) (mg 2 rfl)) rfl (fun v3 H1 G2 hv3 => ?_)
  obtain ⟨rfl, rfl, rfl⟩ := hv3
  show X k w _ 6 [some (.ref (wA w (x))), some (.int (a1)), some (.int (a2))] [.int (if 0 ≤ (a1).toInt ∧ (a1).toInt < ((25 : Nat) : Int) then 1 else 0)] h g
  refine X_if_eq (tgt := 16) C (D (6, .ifCond .eq 10, 3) (mg 3 rfl)) (by decide) (fun q4 => ?_) (fun q4 => ?_)
  · skip
    have q4 : ¬ (0 ≤ (a1).toInt ∧ (a1).toInt < ((25 : Nat) : Int)) := bz0.mp q4
    refine X_aload_n C 0 (D (16, .aload_n 0, 1) (mg 7 rfl)) rfl rfl ?_
    refine X_cV (As := []) (st := []) C (post := _) (x) (by omega) hsx rfl (ct_X7_refuseBad hw hC0 h g) kX7_57 (by decide) (by decide) rfl rfl (Nat.le_of_ble_eq_true rfl) (D (17, .invokevirtual 57, 3) (mg 8 rfl)) rfl (fun v7 H5 G6 hv7 => ?_)
    obtain ⟨rfl, rfl, rfl⟩ := hv7
    show X k w _ 20 [some (.ref (wA w (x))), some (.int (a1)), some (.int (a2))] [.int ((-2 : Int32))] (rcH h (x) 9) g
    exact X_iret C (D (20, .ireturn, 1) (mg 9 rfl)) ⟨⟨_, rfl⟩, ⟨fun q i z0 => by have z := z0; unfold SW at z; rw [rcH_ne _ _ _ (by omega)], ⟨c0, (by omega), (((rcH_ne _ _ _ (by omega))).trans hat)⟩, (paOk_k (fun q i z => by rw [rcH_ne _ _ _ (by omega)]) hpa)⟩⟩
  · skip
    have q4 : (0 ≤ (a1).toInt ∧ (a1).toInt < ((25 : Nat) : Int)) := bz1.mp q4
    obtain ⟨n8, hn8, rfl⟩ := nI_i (x := a1) (n := 25) q4.1 (by omega)
    refine X_iload_n C 2 (D (9, .iload_n 2, 1) (mg 4 rfl)) rfl rfl ?_
    refine X_cS (As := [.int (a2)]) (st := []) C (post := _) (ct_X7_isLookAhead hw (a2) h g) kX7_160 (by decide) (by decide) rfl rfl (Nat.le_of_ble_eq_true rfl) (D (10, .invokestatic 160, 3) (mg 5 rfl)) rfl (fun v11 H9 G10 hv11 => ?_)
    obtain ⟨rfl, rfl, rfl⟩ := hv11
    show X k w _ 13 [some (.ref (wA w (x))), some (.int (nI (n8))), some (.int (a2))] [.int (if 0 ≤ (a2).toInt ∧ (a2).toInt < ((61 : Nat) : Int) then 1 else 0)] h g
    refine X_if_ne (tgt := 21) C (D (13, .ifCond .ne 8, 3) (mg 6 rfl)) (by decide) (fun q12 => ?_) (fun q12 => ?_)
    · skip
      have q12 : (0 ≤ (a2).toInt ∧ (a2).toInt < ((61 : Nat) : Int)) := bz1.mp q12
      obtain ⟨n13, hn13, rfl⟩ := nI_i (x := a2) (n := 61) q12.1 (by omega)
      refine X_aload_n C 0 (D (21, .aload_n 0, 1) (mg 10 rfl)) rfl rfl ?_
      refine X_get (v := .ref (wA w (x + 1))) C (x) 0 (by omega) hsx rfl rfl (by decide) inX7 fX7_10 rfl (D (22, .getfield 10, 3) (mg 11 rfl)) rfl ?_
      refine X_get (v := .ref (wA w (x + 2))) C (x + 1) 0 (by omega) hT.2.1 rfl rfl (by decide) inX4 fX7_61 rfl (D (25, .getfield 61, 3) (mg 12 rfl)) rfl ?_
      refine X_iload_n C 1 (D (28, .iload_n 1, 1) (mg 13 rfl)) rfl rfl ?_
      refine X_iload_n C 2 (D (29, .iload_n 2, 1) (mg 14 rfl)) rfl rfl ?_
      refine X_cV (As := [.int (nI (n8)), .int (nI (n13))]) (st := []) C (post := _) (x + 2) (by omega) hT.2.2.1.2.1 rfl (ct_X1_heightAfter hw (n := x + 2) hT.2.2.1 (j := n8) (by omega) (nI (n13)) h g) kX7_129 (by decide) (by decide) rfl rfl (Nat.le_of_ble_eq_true rfl) (D (30, .invokevirtual 129, 3) (mg 15 rfl)) rfl (fun v16 H14 G15 hv16 => ?_)
      obtain ⟨⟨y17, rfl⟩, rfl, rfl⟩ := hv16
      show X k w _ 33 [some (.ref (wA w (x))), some (.int (nI (n8))), some (.int (nI (n13)))] [.int (y17)] h g
      exact X_iret C (D (33, .ireturn, 1) (mg 16 rfl)) ⟨⟨_, rfl⟩, (wI_r hI)⟩
    · skip
      have q12 : ¬ (0 ≤ (a2).toInt ∧ (a2).toInt < ((61 : Nat) : Int)) := bz0.mp q12
      refine X_aload_n C 0 (D (16, .aload_n 0, 1) (mg 7 rfl)) rfl rfl ?_
      refine X_cV (As := []) (st := []) C (post := _) (x) (by omega) hsx rfl (ct_X7_refuseBad hw hC0 h g) kX7_57 (by decide) (by decide) rfl rfl (Nat.le_of_ble_eq_true rfl) (D (17, .invokevirtual 57, 3) (mg 8 rfl)) rfl (fun v20 H18 G19 hv20 => ?_)
      obtain ⟨rfl, rfl, rfl⟩ := hv20
      show X k w _ 20 [some (.ref (wA w (x))), some (.int (nI (n8))), some (.int (a2))] [.int ((-2 : Int32))] (rcH h (x) 9) g
      exact X_iret C (D (20, .ireturn, 1) (mg 9 rfl)) ⟨⟨_, rfl⟩, ⟨fun q i z0 => by have z := z0; unfold SW at z; rw [rcH_ne _ _ _ (by omega)], ⟨c0, (by omega), (((rcH_ne _ _ _ (by omega))).trans hat)⟩, (paOk_k (fun q i z => by rw [rcH_ne _ _ _ (by omega)]) hpa)⟩⟩
set_option maxHeartbeats 4000000 in
set_option maxRecDepth 100000 in
theorem ct_X7_when {l : Launch} {w : Kw} (hw : wOk w) {x : Nat} (hC : shC w x) (a1 a2 : Int32) (h : xI) (g : xJ) (hI : cOk h x) : Ct l w yX7_when cX7_when 4 (some .int) 3 68 [.ref (wA w (x)), .int (a1), .int (a2)] h g (pQ (wI x h)) := by
  refine Ct_of (ls := [some (.ref (wA w (x))), some (.int (a1)), some (.int (a2)), none]) (by decide) hw (Nat.le_of_ble_eq_true rfl) rfl (fun k hkl C => ?_)
  have C : Cx k w cX7_when RX7 4 (some .int) 3 68 := C
  have D := dtX7_when
  subst hkl
  have hC0 := hC
  obtain ⟨hxn, hsx, hT, hsi, hTa, hTb, hsk, hNs, hY, hX, hsv⟩ := hC
  have hY2 := hY.1
  have hX2 := hX.1
  have hI0 := hI
  obtain ⟨⟨⟨c0, hc0, hat⟩, hpa, ⟨ns, hns, hse⟩, ⟨nm, hnm, hma⟩⟩, -, -, ⟨nt, hnt, htx⟩, ⟨ct, hct, hatx⟩⟩ := hI
  have hI := hI0
  refine X_iload_n C 1 (D (0, .iload_n 1, 1) (mg 0 rfl)) rfl rfl ?_
  refine X_bipush (v := nI (25)) C (D (1, .bipush 25, 2) (mg 1 rfl)) (by decide) ?_
  refine X_cS (As := [.int (a1), .int (nI (25))]) (st := []) C (post := _) (ct_X7_isBelow hw (a1) (B := 25) (by decide) h g) kX7_53 (by decide) (by decide) rfl rfl (Nat.le_of_ble_eq_true rfl) (D (3, .invokestatic 53, 3) (mg 2 rfl)) rfl (fun v3 H1 G2 hv3 => ?_)
  obtain ⟨rfl, rfl, rfl⟩ := hv3
  show X k w _ 6 [some (.ref (wA w (x))), some (.int (a1)), some (.int (a2)), none] [.int (if 0 ≤ (a1).toInt ∧ (a1).toInt < ((25 : Nat) : Int) then 1 else 0)] h g
  refine X_if_eq (tgt := 20) C (D (6, .ifCond .eq 14, 3) (mg 3 rfl)) (by decide) (fun q4 => ?_) (fun q4 => ?_)
  · skip
    have q4 : ¬ (0 ≤ (a1).toInt ∧ (a1).toInt < ((25 : Nat) : Int)) := bz0.mp q4
    refine X_aload_n C 0 (D (20, .aload_n 0, 1) (mg 10 rfl)) rfl rfl ?_
    refine X_cV (As := []) (st := []) C (post := _) (x) (by omega) hsx rfl (ct_X7_refuseBad hw hC0 h g) kX7_57 (by decide) (by decide) rfl rfl (Nat.le_of_ble_eq_true rfl) (D (21, .invokevirtual 57, 3) (mg 11 rfl)) rfl (fun v7 H5 G6 hv7 => ?_)
    obtain ⟨rfl, rfl, rfl⟩ := hv7
    show X k w _ 24 [some (.ref (wA w (x))), some (.int (a1)), some (.int (a2)), none] [.int ((-2 : Int32))] (rcH h (x) 9) g
    exact X_iret C (D (24, .ireturn, 1) (mg 12 rfl)) ⟨⟨_, rfl⟩, ⟨fun q i z0 => by have z := z0; unfold SW at z; rw [rcH_ne _ _ _ (by omega)], ⟨c0, (by omega), (((rcH_ne _ _ _ (by omega))).trans hat)⟩, (paOk_k (fun q i z => by rw [rcH_ne _ _ _ (by omega)]) hpa)⟩⟩
  · skip
    have q4 : (0 ≤ (a1).toInt ∧ (a1).toInt < ((25 : Nat) : Int)) := bz1.mp q4
    obtain ⟨n8, hn8, rfl⟩ := nI_i (x := a1) (n := 25) q4.1 (by omega)
    refine X_iload_n C 2 (D (9, .iload_n 2, 1) (mg 4 rfl)) rfl rfl ?_
    refine X_iconst (v := nI (1)) C (D (10, .iconst 1, 1) (mg 5 rfl)) (by decide) ?_
    refine X_icmp_lt (tgt := 20) C (D (11, .if_icmp .lt 9, 3) (mg 6 rfl)) (by decide) (fun q9 => ?_) (fun q9 => ?_)
    · skip
      refine X_aload_n C 0 (D (20, .aload_n 0, 1) (mg 10 rfl)) rfl rfl ?_
      refine X_cV (As := []) (st := []) C (post := _) (x) (by omega) hsx rfl (ct_X7_refuseBad hw hC0 h g) kX7_57 (by decide) (by decide) rfl rfl (Nat.le_of_ble_eq_true rfl) (D (21, .invokevirtual 57, 3) (mg 11 rfl)) rfl (fun v12 H10 G11 hv12 => ?_)
      obtain ⟨rfl, rfl, rfl⟩ := hv12
      show X k w _ 24 [some (.ref (wA w (x))), some (.int (nI (n8))), some (.int (a2)), none] [.int ((-2 : Int32))] (rcH h (x) 9) g
      exact X_iret C (D (24, .ireturn, 1) (mg 12 rfl)) ⟨⟨_, rfl⟩, ⟨fun q i z0 => by have z := z0; unfold SW at z; rw [rcH_ne _ _ _ (by omega)], ⟨c0, (by omega), (((rcH_ne _ _ _ (by omega))).trans hat)⟩, (paOk_k (fun q i z => by rw [rcH_ne _ _ _ (by omega)]) hpa)⟩⟩
    · skip
      refine X_iload_n C 2 (D (14, .iload_n 2, 1) (mg 7 rfl)) rfl rfl ?_
      refine X_bipush (v := nI (20)) C (D (15, .bipush 20, 2) (mg 8 rfl)) (by decide) ?_
      refine X_icmp_le (tgt := 25) C (D (17, .if_icmp .le 8, 3) (mg 9 rfl)) (by decide) (fun q13 => ?_) (fun q13 => ?_)
      · skip
        refine X_iconst (v := nI (0)) C (D (25, .iconst 0, 1) (mg 13 rfl)) (by decide) ?_
        refine X_istore_n (ls' := [some (.ref (wA w (x))), some (.int (nI (n8))), some (.int (a2)), some (.int (nI (0)))]) C 3 (D (26, .istore_n 3, 1) (mg 14 rfl)) rfl (Nat.le_of_ble_eq_true rfl) rfl ?_
        have lp27 : ∀ (nn27 : Nat) (j : Nat), (j ≤ 61) → 62 - j ≤ nn27 → X k w (Zq k w (pQ (wI x h))) 27 [some (.ref (wA w (x))), some (.int (nI (n8))), some (.int (a2)), some (.int (nI (j)))] [] h g := by
          intro nn27
          induction nn27 with
          | zero => intro j hc27_0 hz; exact absurd hz (by omega)
          | succ nn27 ih27 =>
            intro j hc27_0 hz27
            refine X_iload_n C 3 (D (27, .iload_n 3, 1) (mg 15 rfl)) rfl rfl ?_
            refine X_bipush (v := nI (60)) C (D (28, .bipush 60, 2) (mg 16 rfl)) (by decide) ?_
            refine X_icmp_gt (tgt := 57) C (D (30, .if_icmp .gt 27, 3) (mg 17 rfl)) (by decide) (fun q14 => ?_) (fun q14 => ?_)
            · skip
              have q14 : (j) > (60) := by have z := (nI_ltI (a := (60)) (b := (j)) (by omega) (by omega)).mp q14; omega
              refine X_iconst (v := (-1 : Int32)) C (D (57, .iconst (-1), 1) (mg 30 rfl)) (by decide) ?_
              exact X_iret C (D (58, .ireturn, 1) (mg 31 rfl)) ⟨⟨_, rfl⟩, (wI_r hI)⟩
            · skip
              have q14 : (j) ≤ (60) := by have z : ¬ ((60) < (j)) := fun u => q14 ((nI_ltI (a := (60)) (b := (j)) (by omega) (by omega)).mpr u); omega
              refine X_aload_n C 0 (D (33, .aload_n 0, 1) (mg 18 rfl)) rfl rfl ?_
              refine X_get (v := .ref (wA w (x + 1))) C (x) 0 (by omega) hsx rfl rfl (by decide) inX7 fX7_10 rfl (D (34, .getfield 10, 3) (mg 19 rfl)) rfl ?_
              refine X_get (v := .ref (wA w (x + 2))) C (x + 1) 0 (by omega) hT.2.1 rfl rfl (by decide) inX4 fX7_61 rfl (D (37, .getfield 61, 3) (mg 20 rfl)) rfl ?_
              refine X_iload_n C 1 (D (40, .iload_n 1, 1) (mg 21 rfl)) rfl rfl ?_
              refine X_iload_n C 3 (D (41, .iload_n 3, 1) (mg 22 rfl)) rfl rfl ?_
              refine X_cV (As := [.int (nI (n8)), .int (nI (j))]) (st := []) C (post := _) (x + 2) (by omega) hT.2.2.1.2.1 rfl (ct_X1_heightAfter hw (n := x + 2) hT.2.2.1 (j := n8) (by omega) (nI (j)) h g) kX7_129 (by decide) (by decide) rfl rfl (Nat.le_of_ble_eq_true rfl) (D (42, .invokevirtual 129, 3) (mg 23 rfl)) rfl (fun v17 H15 G16 hv17 => ?_)
              obtain ⟨⟨y18, rfl⟩, rfl, rfl⟩ := hv17
              show X k w _ 45 [some (.ref (wA w (x))), some (.int (nI (n8))), some (.int (a2)), some (.int (nI (j)))] [.int (y18)] h g
              refine X_iload_n C 2 (D (45, .iload_n 2, 1) (mg 24 rfl)) rfl rfl ?_
              refine X_icmp_lt (tgt := 51) C (D (46, .if_icmp .lt 5, 3) (mg 25 rfl)) (by decide) (fun q19 => ?_) (fun q19 => ?_)
              · skip
                refine X_iinc (v := nI (j + 1)) (ls' := [some (.ref (wA w (x))), some (.int (nI (n8))), some (.int (a2)), some (.int (nI (j + 1)))]) C (D (51, .iinc 3 1, 3) (mg 28 rfl)) rfl (nI_add (j) 1) rfl ?_
                refine X_goto (tgt := 27) C (D (54, .goto (-27), 3) (mg 29 rfl)) (by decide) ?_
                refine X_eq (ls' := [some (.ref (wA w (x))), some (.int (nI (n8))), some (.int (a2)), some (.int (nI (j + 1)))]) (st' := []) (h' := h) (g' := g) rfl rfl rfl rfl ?_
                exact ih27 (j + 1) (by omega) (by omega)
              · skip
                refine X_iload_n C 3 (D (49, .iload_n 3, 1) (mg 26 rfl)) rfl rfl ?_
                exact X_iret C (D (50, .ireturn, 1) (mg 27 rfl)) ⟨⟨_, rfl⟩, (wI_r hI)⟩
        refine X_eq (ls' := [some (.ref (wA w (x))), some (.int (nI (n8))), some (.int (a2)), some (.int (nI (0)))]) (st' := []) (h' := h) (g' := g) rfl rfl rfl rfl ?_
        exact lp27 _ (0) (by omega) (Nat.le_refl _)
      · skip
        refine X_aload_n C 0 (D (20, .aload_n 0, 1) (mg 10 rfl)) rfl rfl ?_
        refine X_cV (As := []) (st := []) C (post := _) (x) (by omega) hsx rfl (ct_X7_refuseBad hw hC0 h g) kX7_57 (by decide) (by decide) rfl rfl (Nat.le_of_ble_eq_true rfl) (D (21, .invokevirtual 57, 3) (mg 11 rfl)) rfl (fun v22 H20 G21 hv22 => ?_)
        obtain ⟨rfl, rfl, rfl⟩ := hv22
        show X k w _ 24 [some (.ref (wA w (x))), some (.int (nI (n8))), some (.int (a2)), none] [.int ((-2 : Int32))] (rcH h (x) 9) g
        exact X_iret C (D (24, .ireturn, 1) (mg 12 rfl)) ⟨⟨_, rfl⟩, ⟨fun q i z0 => by have z := z0; unfold SW at z; rw [rcH_ne _ _ _ (by omega)], ⟨c0, (by omega), (((rcH_ne _ _ _ (by omega))).trans hat)⟩, (paOk_k (fun q i z => by rw [rcH_ne _ _ _ (by omega)]) hpa)⟩⟩
set_option maxHeartbeats 4000000 in
set_option maxRecDepth 100000 in
theorem ct_X7_green {l : Launch} {w : Kw} (hw : wOk w) {x : Nat} (hC : shC w x) (a1 : Int32) (h : xI) (g : xJ) (hI : cOk h x) : Ct l w yX7_green cX7_green 2 (some .int) 5 113 [.ref (wA w (x)), .int (a1)] h g (pQ (wI x h)) := by
  refine Ct_of (ls := [some (.ref (wA w (x))), some (.int (a1))]) (by decide) hw (Nat.le_of_ble_eq_true rfl) rfl (fun k hkl C => ?_)
  have C : Cx k w cX7_green RX7 2 (some .int) 5 113 := C
  have D := dtX7_green
  subst hkl
  have hC0 := hC
  obtain ⟨hxn, hsx, hT, hsi, hTa, hTb, hsk, hNs, hY, hX, hsv⟩ := hC
  have hY2 := hY.1
  have hX2 := hX.1
  have hI0 := hI
  obtain ⟨⟨⟨c0, hc0, hat⟩, hpa, ⟨ns, hns, hse⟩, ⟨nm, hnm, hma⟩⟩, -, -, ⟨nt, hnt, htx⟩, ⟨ct, hct, hatx⟩⟩ := hI
  have hI := hI0
  refine X_iload_n C 1 (D (0, .iload_n 1, 1) (mg 0 rfl)) rfl rfl ?_
  refine X_cS (As := [.int (a1)]) (st := []) C (post := _) (ct_X7_isLookAhead hw (a1) h g) kX7_160 (by decide) (by decide) rfl rfl (Nat.le_of_ble_eq_true rfl) (D (1, .invokestatic 160, 3) (mg 1 rfl)) rfl (fun v3 H1 G2 hv3 => ?_)
  obtain ⟨rfl, rfl, rfl⟩ := hv3
  show X k w _ 4 [some (.ref (wA w (x))), some (.int (a1))] [.int (if 0 ≤ (a1).toInt ∧ (a1).toInt < ((61 : Nat) : Int) then 1 else 0)] h g
  refine X_if_ne (tgt := 12) C (D (4, .ifCond .ne 8, 3) (mg 2 rfl)) (by decide) (fun q4 => ?_) (fun q4 => ?_)
  · skip
    have q4 : (0 ≤ (a1).toInt ∧ (a1).toInt < ((61 : Nat) : Int)) := bz1.mp q4
    obtain ⟨n5, hn5, rfl⟩ := nI_i (x := a1) (n := 61) q4.1 (by omega)
    refine X_aload_n C 0 (D (12, .aload_n 0, 1) (mg 6 rfl)) rfl rfl ?_
    refine X_get (v := .ref (wA w (x + 1))) C (x) 0 (by omega) hsx rfl rfl (by decide) inX7 fX7_10 rfl (D (13, .getfield 10, 3) (mg 7 rfl)) rfl ?_
    refine X_get (v := .ref (wA w (x + 2))) C (x + 1) 0 (by omega) hT.2.1 rfl rfl (by decide) inX4 fX7_61 rfl (D (16, .getfield 61, 3) (mg 8 rfl)) rfl ?_
    refine X_iload_n C 1 (D (19, .iload_n 1, 1) (mg 9 rfl)) rfl rfl ?_
    refine X_cV (As := [.int (nI (n5))]) (st := []) C (post := _) (x + 2) (by omega) hT.2.2.1.2.1 rfl (ct_X1_greenAfter hw (n := x + 2) hT.2.2.1 (nI (n5)) h g) kX7_141 (by decide) (by decide) rfl rfl (Nat.le_of_ble_eq_true rfl) (D (20, .invokevirtual 141, 3) (mg 10 rfl)) rfl (fun v8 H6 G7 hv8 => ?_)
    obtain ⟨⟨y9, rfl⟩, rfl, rfl⟩ := hv8
    show X k w _ 23 [some (.ref (wA w (x))), some (.int (nI (n5)))] [.int (y9)] h g
    exact X_iret C (D (23, .ireturn, 1) (mg 11 rfl)) ⟨⟨_, rfl⟩, (wI_r hI)⟩
  · skip
    have q4 : ¬ (0 ≤ (a1).toInt ∧ (a1).toInt < ((61 : Nat) : Int)) := bz0.mp q4
    refine X_aload_n C 0 (D (7, .aload_n 0, 1) (mg 3 rfl)) rfl rfl ?_
    refine X_cV (As := []) (st := []) C (post := _) (x) (by omega) hsx rfl (ct_X7_refuseBad hw hC0 h g) kX7_57 (by decide) (by decide) rfl rfl (Nat.le_of_ble_eq_true rfl) (D (8, .invokevirtual 57, 3) (mg 4 rfl)) rfl (fun v12 H10 G11 hv12 => ?_)
    obtain ⟨rfl, rfl, rfl⟩ := hv12
    show X k w _ 11 [some (.ref (wA w (x))), some (.int (a1))] [.int ((-2 : Int32))] (rcH h (x) 9) g
    exact X_iret C (D (11, .ireturn, 1) (mg 5 rfl)) ⟨⟨_, rfl⟩, ⟨fun q i z0 => by have z := z0; unfold SW at z; rw [rcH_ne _ _ _ (by omega)], ⟨c0, (by omega), (((rcH_ne _ _ _ (by omega))).trans hat)⟩, (paOk_k (fun q i z => by rw [rcH_ne _ _ _ (by omega)]) hpa)⟩⟩
set_option maxHeartbeats 4000000 in
set_option maxRecDepth 100000 in
theorem ct_X7_status {l : Launch} {w : Kw} (hw : wOk w) {x : Nat} (hC : shC w x) (a1 : Int32) (h : xI) (g : xJ) (hI : cOk h x) : Ct l w yX7_status cX7_status 2 (some .int) 0 0 [.ref (wA w (x)), .int (a1)] h g (pQ (wI x h)) := by
  refine Ct_of (ls := [some (.ref (wA w (x))), some (.int (a1))]) (by decide) hw (Nat.le_of_ble_eq_true rfl) rfl (fun k hkl C => ?_)
  have C : Cx k w cX7_status RX7 2 (some .int) 0 0 := C
  have D := dtX7_status
  subst hkl
  have hC0 := hC
  obtain ⟨hxn, hsx, hT, hsi, hTa, hTb, hsk, hNs, hY, hX, hsv⟩ := hC
  have hY2 := hY.1
  have hX2 := hX.1
  have hI0 := hI
  obtain ⟨⟨⟨c0, hc0, hat⟩, hpa, ⟨ns, hns, hse⟩, ⟨nm, hnm, hma⟩⟩, -, -, ⟨nt, hnt, htx⟩, ⟨ct, hct, hatx⟩⟩ := hI
  have hI := hI0
  refine X_iload_n C 1 (D (0, .iload_n 1, 1) (mg 0 rfl)) rfl rfl ?_
  rcases sw_0_2 (a1) with q1 | q1 | q1 | q1
  · refine X_swIn (tgt := 28) C (D (1, .tableswitch 42 0 2 #[27, 32, 37], 27) (mg 1 rfl)) (0) (by rw [q1]; decide) (by decide) (by decide) rfl (by decide) ?_
    refine X_aload_n C 0 (D (28, .aload_n 0, 1) (mg 2 rfl)) rfl rfl ?_
    refine X_get (v := .int (h (x) 9)) C (x) 9 (by omega) hsx rfl rfl (by decide) inX7 fX7_253 rfl (D (29, .getfield 253, 3) (mg 3 rfl)) rfl ?_
    exact X_iret C (D (32, .ireturn, 1) (mg 4 rfl)) ⟨⟨_, rfl⟩, (wI_r hI)⟩
  · refine X_swIn (tgt := 33) C (D (1, .tableswitch 42 0 2 #[27, 32, 37], 27) (mg 1 rfl)) (1) (by rw [q1]; decide) (by decide) (by decide) rfl (by decide) ?_
    refine X_aload_n C 0 (D (33, .aload_n 0, 1) (mg 5 rfl)) rfl rfl ?_
    refine X_get (v := .int (h (x) 10)) C (x) 10 (by omega) hsx rfl rfl (by decide) inX7 fX7_256 rfl (D (34, .getfield 256, 3) (mg 6 rfl)) rfl ?_
    exact X_iret C (D (37, .ireturn, 1) (mg 7 rfl)) ⟨⟨_, rfl⟩, (wI_r hI)⟩
  · refine X_swIn (tgt := 38) C (D (1, .tableswitch 42 0 2 #[27, 32, 37], 27) (mg 1 rfl)) (2) (by rw [q1]; decide) (by decide) (by decide) rfl (by decide) ?_
    refine X_aload_n C 0 (D (38, .aload_n 0, 1) (mg 8 rfl)) rfl rfl ?_
    refine X_get (v := .int (h (x) 11)) C (x) 11 (by omega) hsx rfl rfl (by decide) inX7 fX7_259 rfl (D (39, .getfield 259, 3) (mg 9 rfl)) rfl ?_
    exact X_iret C (D (42, .ireturn, 1) (mg 10 rfl)) ⟨⟨_, rfl⟩, (wI_r hI)⟩
  · refine X_swOut (tgt := 43) C (D (1, .tableswitch 42 0 2 #[27, 32, 37], 27) (mg 1 rfl)) q1 (by decide) ?_
    refine X_aload_n C 0 (D (43, .aload_n 0, 1) (mg 11 rfl)) rfl rfl ?_
    refine X_dup C (D (44, .dup, 1) (mg 12 rfl)) rfl ?_
    refine X_get (v := .int (h (x) 9)) C (x) 9 (by omega) hsx rfl rfl (by decide) inX7 fX7_253 rfl (D (45, .getfield 253, 3) (mg 13 rfl)) rfl ?_
    refine X_iconst (v := nI (1)) C (D (48, .iconst 1, 1) (mg 14 rfl)) (by decide) ?_
    refine X_iadd C (D (49, .iadd, 1) (mg 15 rfl)) ?_
    refine X_putI C (x) 9 tyX7 tyX7_ok nmX7 (by omega) hsx rfl rfl (by decide) inX7 fX7_253 rfl rfl (by decide +kernel) (D (50, .putfield 253, 3) (mg 16 rfl)) ?_
    refine X_iconst (v := (-1 : Int32)) C (D (53, .iconst (-1), 1) (mg 17 rfl)) (by decide) ?_
    exact X_iret C (D (54, .ireturn, 1) (mg 18 rfl)) ⟨⟨_, rfl⟩, ⟨fun q i z0 => by have z := z0; unfold SW at z; rw [u2_ne _ _ _ _ (by omega)], ⟨c0, (by omega), (((u2_p _ _ _ _ (by omega))).trans hat)⟩, (paOk_k (fun q i z => by rw [u2_ne _ _ _ _ (by omega)]) hpa)⟩⟩
theorem sw_0_8 (x : Int32) : x = 0 ∨ x = 1 ∨ x = 2 ∨ x = 3 ∨ x = 4 ∨ x = 5 ∨ x = 6 ∨ x = 7 ∨ x = 8 ∨ (x.toInt < 0 ∨ 8 < x.toInt) := by
  have e : ∀ y : Int32, x = y ↔ x.toInt = y.toInt := fun y => Int32.toInt_inj.symm
  simp only [e, show (0 : Int32).toInt = 0 from by decide, show (1 : Int32).toInt = 1 from by decide, show (2 : Int32).toInt = 2 from by decide, show (3 : Int32).toInt = 3 from by decide, show (4 : Int32).toInt = 4 from by decide, show (5 : Int32).toInt = 5 from by decide, show (6 : Int32).toInt = 6 from by decide, show (7 : Int32).toInt = 7 from by decide, show (8 : Int32).toInt = 8 from by decide]
  omega
set_option maxHeartbeats 4000000 in
set_option maxRecDepth 100000 in
theorem ct_X7_howMany {l : Launch} {w : Kw} (hw : wOk w) {x : Nat} (hC : shC w x) (a1 : Int32) (h : xI) (g : xJ) (hI : cOk h x) : Ct l w yX7_howMany cX7_howMany 2 (some .int) 5 113 [.ref (wA w (x)), .int (a1)] h g (pI h g) := by
  refine Ct_of (ls := [some (.ref (wA w (x))), some (.int (a1))]) (by decide) hw (Nat.le_of_ble_eq_true rfl) rfl (fun k hkl C => ?_)
  have C : Cx k w cX7_howMany RX7 2 (some .int) 5 113 := C
  have D := dtX7_howMany
  subst hkl
  have hC0 := hC
  obtain ⟨hxn, hsx, hT, hsi, hTa, hTb, hsk, hNs, hY, hX, hsv⟩ := hC
  have hY2 := hY.1
  have hX2 := hX.1
  have hI0 := hI
  obtain ⟨⟨⟨c0, hc0, hat⟩, hpa, ⟨ns, hns, hse⟩, ⟨nm, hnm, hma⟩⟩, -, -, ⟨nt, hnt, htx⟩, ⟨ct, hct, hatx⟩⟩ := hI
  have hI := hI0
  refine X_iload_n C 1 (D (0, .iload_n 1, 1) (mg 0 rfl)) rfl rfl ?_
  rcases sw_0_8 (a1) with q1 | q1 | q1 | q1 | q1 | q1 | q1 | q1 | q1 | q1
  · refine X_swIn (tgt := 52) C (D (1, .tableswitch 148 0 8 #[51, 62, 74, 88, 99, 110, 121, 129, 137], 51) (mg 1 rfl)) (0) (by rw [q1]; decide) (by decide) (by decide) rfl (by decide) ?_
    refine X_aload_n C 0 (D (52, .aload_n 0, 1) (mg 2 rfl)) rfl rfl ?_
    refine X_get (v := .ref (wA w (x + 1))) C (x) 0 (by omega) hsx rfl rfl (by decide) inX7 fX7_10 rfl (D (53, .getfield 10, 3) (mg 3 rfl)) rfl ?_
    refine X_get (v := .ref (wA w (x + 2))) C (x + 1) 0 (by omega) hT.2.1 rfl rfl (by decide) inX4 fX7_61 rfl (D (56, .getfield 61, 3) (mg 4 rfl)) rfl ?_
    refine X_cV (As := []) (st := []) C (post := _) (x + 2) (by omega) hT.2.2.1.2.1 rfl (ct_X1_filled hw (n := x + 2) hT.2.2.1  h g) kX7_64 (by decide) (by decide) rfl rfl (Nat.le_of_ble_eq_true rfl) (D (59, .invokevirtual 64, 3) (mg 5 rfl)) rfl (fun v4 H2 G3 hv4 => ?_)
    obtain ⟨⟨y5, rfl⟩, rfl, rfl⟩ := hv4
    show X k w _ 62 [some (.ref (wA w (x))), some (.int (a1))] [.int (y5)] h g
    exact X_iret C (D (62, .ireturn, 1) (mg 6 rfl)) ⟨⟨_, rfl⟩, rfl, rfl⟩
  · refine X_swIn (tgt := 63) C (D (1, .tableswitch 148 0 8 #[51, 62, 74, 88, 99, 110, 121, 129, 137], 51) (mg 1 rfl)) (1) (by rw [q1]; decide) (by decide) (by decide) rfl (by decide) ?_
    refine X_aload_n C 0 (D (63, .aload_n 0, 1) (mg 7 rfl)) rfl rfl ?_
    refine X_get (v := .ref (wA w (x + 1))) C (x) 0 (by omega) hsx rfl rfl (by decide) inX7 fX7_10 rfl (D (64, .getfield 10, 3) (mg 8 rfl)) rfl ?_
    refine X_get (v := .ref (wA w (x + 2))) C (x + 1) 0 (by omega) hT.2.1 rfl rfl (by decide) inX4 fX7_61 rfl (D (67, .getfield 61, 3) (mg 9 rfl)) rfl ?_
    refine X_iconst (v := nI (0)) C (D (70, .iconst 0, 1) (mg 10 rfl)) (by decide) ?_
    refine X_cV (As := [.int (nI (0))]) (st := []) C (post := _) (x + 2) (by omega) hT.2.2.1.2.1 rfl (ct_X1_greenAfter hw (n := x + 2) hT.2.2.1 (nI (0)) h g) kX7_141 (by decide) (by decide) rfl rfl (Nat.le_of_ble_eq_true rfl) (D (71, .invokevirtual 141, 3) (mg 11 rfl)) rfl (fun v8 H6 G7 hv8 => ?_)
    obtain ⟨⟨y9, rfl⟩, rfl, rfl⟩ := hv8
    show X k w _ 74 [some (.ref (wA w (x))), some (.int (a1))] [.int (y9)] h g
    exact X_iret C (D (74, .ireturn, 1) (mg 12 rfl)) ⟨⟨_, rfl⟩, rfl, rfl⟩
  · refine X_swIn (tgt := 75) C (D (1, .tableswitch 148 0 8 #[51, 62, 74, 88, 99, 110, 121, 129, 137], 51) (mg 1 rfl)) (2) (by rw [q1]; decide) (by decide) (by decide) rfl (by decide) ?_
    refine X_aload_n C 0 (D (75, .aload_n 0, 1) (mg 13 rfl)) rfl rfl ?_
    refine X_get (v := .ref (wA w (x + 1))) C (x) 0 (by omega) hsx rfl rfl (by decide) inX7 fX7_10 rfl (D (76, .getfield 10, 3) (mg 14 rfl)) rfl ?_
    refine X_get (v := .ref (wA w (x + 2))) C (x + 1) 0 (by omega) hT.2.1 rfl rfl (by decide) inX4 fX7_61 rfl (D (79, .getfield 61, 3) (mg 15 rfl)) rfl ?_
    refine X_bipush (v := nI (8)) C (D (82, .bipush 8, 2) (mg 16 rfl)) (by decide) ?_
    refine X_iconst (v := nI (0)) C (D (84, .iconst 0, 1) (mg 17 rfl)) (by decide) ?_
    refine X_cV (As := [.int (nI (8)), .int (nI (0))]) (st := []) C (post := _) (x + 2) (by omega) hT.2.2.1.2.1 rfl (ct_X1_atLeast hw (n := x + 2) hT.2.2.1 (nI (8)) (nI (0)) h g) kX7_289 (by decide) (by decide) rfl rfl (Nat.le_of_ble_eq_true rfl) (D (85, .invokevirtual 289, 3) (mg 18 rfl)) rfl (fun v12 H10 G11 hv12 => ?_)
    obtain ⟨⟨y13, rfl⟩, rfl, rfl⟩ := hv12
    show X k w _ 88 [some (.ref (wA w (x))), some (.int (a1))] [.int (y13)] h g
    exact X_iret C (D (88, .ireturn, 1) (mg 19 rfl)) ⟨⟨_, rfl⟩, rfl, rfl⟩
  · refine X_swIn (tgt := 89) C (D (1, .tableswitch 148 0 8 #[51, 62, 74, 88, 99, 110, 121, 129, 137], 51) (mg 1 rfl)) (3) (by rw [q1]; decide) (by decide) (by decide) rfl (by decide) ?_
    refine X_aload_n C 0 (D (89, .aload_n 0, 1) (mg 20 rfl)) rfl rfl ?_
    refine X_get (v := .ref (wA w (x + 1))) C (x) 0 (by omega) hsx rfl rfl (by decide) inX7 fX7_10 rfl (D (90, .getfield 10, 3) (mg 21 rfl)) rfl ?_
    refine X_get (v := .ref (wA w (x + 2))) C (x + 1) 0 (by omega) hT.2.1 rfl rfl (by decide) inX4 fX7_61 rfl (D (93, .getfield 61, 3) (mg 22 rfl)) rfl ?_
    refine X_get (v := .int (h (x + 2) 4)) C (x + 2) 4 (by omega) hT.2.2.1.2.1 rfl rfl (by decide) inX1 fX7_135 rfl (D (96, .getfield 135, 3) (mg 23 rfl)) rfl ?_
    exact X_iret C (D (99, .ireturn, 1) (mg 24 rfl)) ⟨⟨_, rfl⟩, rfl, rfl⟩
  · refine X_swIn (tgt := 100) C (D (1, .tableswitch 148 0 8 #[51, 62, 74, 88, 99, 110, 121, 129, 137], 51) (mg 1 rfl)) (4) (by rw [q1]; decide) (by decide) (by decide) rfl (by decide) ?_
    refine X_aload_n C 0 (D (100, .aload_n 0, 1) (mg 25 rfl)) rfl rfl ?_
    refine X_get (v := .ref (wA w (x + 1))) C (x) 0 (by omega) hsx rfl rfl (by decide) inX7 fX7_10 rfl (D (101, .getfield 10, 3) (mg 26 rfl)) rfl ?_
    refine X_get (v := .ref (wA w (x + 2))) C (x + 1) 0 (by omega) hT.2.1 rfl rfl (by decide) inX4 fX7_61 rfl (D (104, .getfield 61, 3) (mg 27 rfl)) rfl ?_
    refine X_get (v := .int (h (x + 2) 3)) C (x + 2) 3 (by omega) hT.2.2.1.2.1 rfl rfl (by decide) inX1 fX7_118 rfl (D (107, .getfield 118, 3) (mg 28 rfl)) rfl ?_
    refine X_ti (y := nI (c0)) (hat) ?_
    exact X_iret C (D (110, .ireturn, 1) (mg 29 rfl)) ⟨⟨_, rfl⟩, rfl, rfl⟩
  · refine X_swIn (tgt := 111) C (D (1, .tableswitch 148 0 8 #[51, 62, 74, 88, 99, 110, 121, 129, 137], 51) (mg 1 rfl)) (5) (by rw [q1]; decide) (by decide) (by decide) rfl (by decide) ?_
    refine X_aload_n C 0 (D (111, .aload_n 0, 1) (mg 30 rfl)) rfl rfl ?_
    refine X_get (v := .ref (wA w (x + 1))) C (x) 0 (by omega) hsx rfl rfl (by decide) inX7 fX7_10 rfl (D (112, .getfield 10, 3) (mg 31 rfl)) rfl ?_
    refine X_get (v := .ref (wA w (x + 2))) C (x + 1) 0 (by omega) hT.2.1 rfl rfl (by decide) inX4 fX7_61 rfl (D (115, .getfield 61, 3) (mg 32 rfl)) rfl ?_
    refine X_get (v := .int (h (x + 2) 2)) C (x + 2) 2 (by omega) hT.2.2.1.2.1 rfl rfl (by decide) inX1 fX7_74 rfl (D (118, .getfield 74, 3) (mg 33 rfl)) rfl ?_
    exact X_iret C (D (121, .ireturn, 1) (mg 34 rfl)) ⟨⟨_, rfl⟩, rfl, rfl⟩
  · refine X_swIn (tgt := 122) C (D (1, .tableswitch 148 0 8 #[51, 62, 74, 88, 99, 110, 121, 129, 137], 51) (mg 1 rfl)) (6) (by rw [q1]; decide) (by decide) (by decide) rfl (by decide) ?_
    refine X_aload_n C 0 (D (122, .aload_n 0, 1) (mg 35 rfl)) rfl rfl ?_
    refine X_get (v := .ref (wA w (x + 1))) C (x) 0 (by omega) hsx rfl rfl (by decide) inX7 fX7_10 rfl (D (123, .getfield 10, 3) (mg 36 rfl)) rfl ?_
    refine X_get (v := .int (h (x + 1) 4)) C (x + 1) 4 (by omega) hT.2.1 rfl rfl (by decide) inX4 fX7_185 rfl (D (126, .getfield 185, 3) (mg 37 rfl)) rfl ?_
    refine X_ti (y := nI (ns)) (hse) ?_
    exact X_iret C (D (129, .ireturn, 1) (mg 38 rfl)) ⟨⟨_, rfl⟩, rfl, rfl⟩
  · refine X_swIn (tgt := 130) C (D (1, .tableswitch 148 0 8 #[51, 62, 74, 88, 99, 110, 121, 129, 137], 51) (mg 1 rfl)) (7) (by rw [q1]; decide) (by decide) (by decide) rfl (by decide) ?_
    refine X_aload_n C 0 (D (130, .aload_n 0, 1) (mg 39 rfl)) rfl rfl ?_
    refine X_get (v := .ref (wA w (x + 1))) C (x) 0 (by omega) hsx rfl rfl (by decide) inX7 fX7_10 rfl (D (131, .getfield 10, 3) (mg 40 rfl)) rfl ?_
    refine X_get (v := .int (h (x + 1) 5)) C (x + 1) 5 (by omega) hT.2.1 rfl rfl (by decide) inX4 fX7_203 rfl (D (134, .getfield 203, 3) (mg 41 rfl)) rfl ?_
    refine X_ti (y := nI (nm)) (hma) ?_
    exact X_iret C (D (137, .ireturn, 1) (mg 42 rfl)) ⟨⟨_, rfl⟩, rfl, rfl⟩
  · refine X_swIn (tgt := 138) C (D (1, .tableswitch 148 0 8 #[51, 62, 74, 88, 99, 110, 121, 129, 137], 51) (mg 1 rfl)) (8) (by rw [q1]; decide) (by decide) (by decide) rfl (by decide) ?_
    refine X_aload_n C 0 (D (138, .aload_n 0, 1) (mg 43 rfl)) rfl rfl ?_
    refine X_get (v := .ref (wA w (x + 1))) C (x) 0 (by omega) hsx rfl rfl (by decide) inX7 fX7_10 rfl (D (139, .getfield 10, 3) (mg 44 rfl)) rfl ?_
    refine X_get (v := .ref (wA w (x + 5))) C (x + 1) 1 (by omega) hT.2.1 rfl rfl (by decide) inX4 fX7_78 rfl (D (142, .getfield 78, 3) (mg 45 rfl)) rfl ?_
    refine X_get (v := .int (h (x + 5) 1)) C (x + 5) 1 (by omega) hT.2.2.2.1.2.1 rfl rfl (by decide) inX2 fX7_82 rfl (D (145, .getfield 82, 3) (mg 46 rfl)) rfl ?_
    exact X_iret C (D (148, .ireturn, 1) (mg 47 rfl)) ⟨⟨_, rfl⟩, rfl, rfl⟩
  · refine X_swOut (tgt := 149) C (D (1, .tableswitch 148 0 8 #[51, 62, 74, 88, 99, 110, 121, 129, 137], 51) (mg 1 rfl)) q1 (by decide) ?_
    refine X_aload_n C 0 (D (149, .aload_n 0, 1) (mg 48 rfl)) rfl rfl ?_
    refine X_get (v := .ref (wA w (x + 33))) C (x) 5 (by omega) hsx rfl rfl (by decide) inX7 fX7_41 rfl (D (150, .getfield 41, 3) (mg 49 rfl)) rfl ?_
    refine X_get (v := .int (h (x + 33) 2)) C (x + 33) 2 (by omega) hX.2.1 rfl rfl (by decide) inX5 fX7_90 rfl (D (153, .getfield 90, 3) (mg 50 rfl)) rfl ?_
    refine X_ti (y := nI (nt)) (htx) ?_
    exact X_iret C (D (156, .ireturn, 1) (mg 51 rfl)) ⟨⟨_, rfl⟩, rfl, rfl⟩
set_option maxHeartbeats 4000000 in
set_option maxRecDepth 100000 in
theorem ct_X7_count {l : Launch} {w : Kw} (hw : wOk w) {x : Nat} (hC : shC w x) (a1 : Int32) (h : xI) (g : xJ) (hI : cOk h x) : Ct l w yX7_count cX7_count 2 (some .int) 6 134 [.ref (wA w (x)), .int (a1)] h g (pQ (wI x h)) := by
  refine Ct_of (ls := [some (.ref (wA w (x))), some (.int (a1))]) (by decide) hw (Nat.le_of_ble_eq_true rfl) rfl (fun k hkl C => ?_)
  have C : Cx k w cX7_count RX7 2 (some .int) 6 134 := C
  have D := dtX7_count
  subst hkl
  have hC0 := hC
  obtain ⟨hxn, hsx, hT, hsi, hTa, hTb, hsk, hNs, hY, hX, hsv⟩ := hC
  have hY2 := hY.1
  have hX2 := hX.1
  have hI0 := hI
  obtain ⟨⟨⟨c0, hc0, hat⟩, hpa, ⟨ns, hns, hse⟩, ⟨nm, hnm, hma⟩⟩, -, -, ⟨nt, hnt, htx⟩, ⟨ct, hct, hatx⟩⟩ := hI
  have hI := hI0
  refine X_iload_n C 1 (D (0, .iload_n 1, 1) (mg 0 rfl)) rfl rfl ?_
  refine X_bipush (v := nI (10)) C (D (1, .bipush 10, 2) (mg 1 rfl)) (by decide) ?_
  refine X_cS (As := [.int (a1), .int (nI (10))]) (st := []) C (post := _) (ct_X7_isBelow hw (a1) (B := 10) (by decide) h g) kX7_53 (by decide) (by decide) rfl rfl (Nat.le_of_ble_eq_true rfl) (D (3, .invokestatic 53, 3) (mg 2 rfl)) rfl (fun v3 H1 G2 hv3 => ?_)
  obtain ⟨rfl, rfl, rfl⟩ := hv3
  show X k w _ 6 [some (.ref (wA w (x))), some (.int (a1))] [.int (if 0 ≤ (a1).toInt ∧ (a1).toInt < ((10 : Nat) : Int) then 1 else 0)] h g
  refine X_if_ne (tgt := 14) C (D (6, .ifCond .ne 8, 3) (mg 3 rfl)) (by decide) (fun q4 => ?_) (fun q4 => ?_)
  · skip
    have q4 : (0 ≤ (a1).toInt ∧ (a1).toInt < ((10 : Nat) : Int)) := bz1.mp q4
    refine X_aload_n C 0 (D (14, .aload_n 0, 1) (mg 7 rfl)) rfl rfl ?_
    refine X_iload_n C 1 (D (15, .iload_n 1, 1) (mg 8 rfl)) rfl rfl ?_
    refine X_cV (As := [.int (a1)]) (st := []) C (post := _) (x) (by omega) hsx rfl (ct_X7_howMany hw hC0 (a1) h g hI) kX7_262 (by decide) (by decide) rfl rfl (Nat.le_of_ble_eq_true rfl) (D (16, .invokevirtual 262, 3) (mg 9 rfl)) rfl (fun v7 H5 G6 hv7 => ?_)
    obtain ⟨⟨y8, rfl⟩, rfl, rfl⟩ := hv7
    show X k w _ 19 [some (.ref (wA w (x))), some (.int (a1))] [.int (y8)] h g
    exact X_iret C (D (19, .ireturn, 1) (mg 10 rfl)) ⟨⟨_, rfl⟩, (wI_r hI)⟩
  · skip
    have q4 : ¬ (0 ≤ (a1).toInt ∧ (a1).toInt < ((10 : Nat) : Int)) := bz0.mp q4
    refine X_aload_n C 0 (D (9, .aload_n 0, 1) (mg 4 rfl)) rfl rfl ?_
    refine X_cV (As := []) (st := []) C (post := _) (x) (by omega) hsx rfl (ct_X7_refuseBad hw hC0 h g) kX7_57 (by decide) (by decide) rfl rfl (Nat.le_of_ble_eq_true rfl) (D (10, .invokevirtual 57, 3) (mg 5 rfl)) rfl (fun v11 H9 G10 hv11 => ?_)
    obtain ⟨rfl, rfl, rfl⟩ := hv11
    show X k w _ 13 [some (.ref (wA w (x))), some (.int (a1))] [.int ((-2 : Int32))] (rcH h (x) 9) g
    exact X_iret C (D (13, .ireturn, 1) (mg 6 rfl)) ⟨⟨_, rfl⟩, ⟨fun q i z0 => by have z := z0; unfold SW at z; rw [rcH_ne _ _ _ (by omega)], ⟨c0, (by omega), (((rcH_ne _ _ _ (by omega))).trans hat)⟩, (paOk_k (fun q i z => by rw [rcH_ne _ _ _ (by omega)]) hpa)⟩⟩
set_option maxHeartbeats 4000000 in
set_option maxRecDepth 100000 in
theorem ct_X7_part {l : Launch} {w : Kw} (hw : wOk w) {x : Nat} (hC : shC w x) (a1 : Int32) (h : xI) (g : xJ) (hI : cOk h x) : Ct l w yX7_part cX7_part 2 (some .long) 1 21 [.ref (wA w (x)), .int (a1)] h g (pQl (wI x h)) := by
  refine Ct_of (ls := [some (.ref (wA w (x))), some (.int (a1))]) (by decide) hw (Nat.le_of_ble_eq_true rfl) rfl (fun k hkl C => ?_)
  have C : Cx k w cX7_part RX7 2 (some .long) 1 21 := C
  have D := dtX7_part
  subst hkl
  have hC0 := hC
  obtain ⟨hxn, hsx, hT, hsi, hTa, hTb, hsk, hNs, hY, hX, hsv⟩ := hC
  have hY2 := hY.1
  have hX2 := hX.1
  have hI0 := hI
  obtain ⟨⟨⟨c0, hc0, hat⟩, hpa, ⟨ns, hns, hse⟩, ⟨nm, hnm, hma⟩⟩, -, -, ⟨nt, hnt, htx⟩, ⟨ct, hct, hatx⟩⟩ := hI
  have hI := hI0
  refine X_iload_n C 1 (D (0, .iload_n 1, 1) (mg 0 rfl)) rfl rfl ?_
  refine X_iconst (v := nI (2)) C (D (1, .iconst 2, 1) (mg 1 rfl)) (by decide) ?_
  refine X_cS (As := [.int (a1), .int (nI (2))]) (st := []) C (post := _) (ct_X7_isBelow hw (a1) (B := 2) (by decide) h g) kX7_53 (by decide) (by decide) rfl rfl (Nat.le_of_ble_eq_true rfl) (D (2, .invokestatic 53, 3) (mg 2 rfl)) rfl (fun v3 H1 G2 hv3 => ?_)
  obtain ⟨rfl, rfl, rfl⟩ := hv3
  show X k w _ 5 [some (.ref (wA w (x))), some (.int (a1))] [.int (if 0 ≤ (a1).toInt ∧ (a1).toInt < ((2 : Nat) : Int) then 1 else 0)] h g
  refine X_if_ne (tgt := 14) C (D (5, .ifCond .ne 9, 3) (mg 3 rfl)) (by decide) (fun q4 => ?_) (fun q4 => ?_)
  · skip
    have q4 : (0 ≤ (a1).toInt ∧ (a1).toInt < ((2 : Nat) : Int)) := bz1.mp q4
    obtain ⟨n5, hn5, rfl⟩ := nI_i (x := a1) (n := 2) q4.1 (by omega)
    refine X_iload_n C 1 (D (14, .iload_n 1, 1) (mg 8 rfl)) rfl rfl ?_
    refine X_if_ne (tgt := 25) C (D (15, .ifCond .ne 10, 3) (mg 9 rfl)) (by decide) (fun q6 => ?_) (fun q6 => ?_)
    · skip
      have q6 : (n5) ≠ (0) := by have z : ¬ ((n5) = (0)) := fun u => q6 ((nI_eq (a := (n5)) (b := (0)) (by omega) (by omega)).mpr u); omega
      refine X_aload_n C 0 (D (25, .aload_n 0, 1) (mg 13 rfl)) rfl rfl ?_
      refine X_get (v := .long (g (x) 8)) C (x) 8 (by omega) hsx rfl rfl (by decide) inX7 fX7_49 rfl (D (26, .getfield 49, 3) (mg 14 rfl)) rfl ?_
      exact X_lret C (D (29, .lreturn, 1) (mg 15 rfl)) ⟨⟨_, rfl⟩, (wI_r hI)⟩
    · skip
      have q6 : (n5) = (0) := by have z := (nI_eq (a := (n5)) (b := (0)) (by omega) (by omega)).mp q6; omega
      refine X_aload_n C 0 (D (18, .aload_n 0, 1) (mg 10 rfl)) rfl rfl ?_
      refine X_get (v := .long (g (x) 7)) C (x) 7 (by omega) hsx rfl rfl (by decide) inX7 fX7_246 rfl (D (19, .getfield 246, 3) (mg 11 rfl)) rfl ?_
      refine X_goto (tgt := 29) C (D (22, .goto 7, 3) (mg 12 rfl)) (by decide) ?_
      exact X_lret C (D (29, .lreturn, 1) (mg 15 rfl)) ⟨⟨_, rfl⟩, (wI_r hI)⟩
  · skip
    have q4 : ¬ (0 ≤ (a1).toInt ∧ (a1).toInt < ((2 : Nat) : Int)) := bz0.mp q4
    refine X_aload_n C 0 (D (8, .aload_n 0, 1) (mg 4 rfl)) rfl rfl ?_
    refine X_cV (As := []) (st := []) C (post := _) (x) (by omega) hsx rfl (ct_X7_refuseBad hw hC0 h g) kX7_57 (by decide) (by decide) rfl rfl (Nat.le_of_ble_eq_true rfl) (D (9, .invokevirtual 57, 3) (mg 5 rfl)) rfl (fun v9 H7 G8 hv9 => ?_)
    obtain ⟨rfl, rfl, rfl⟩ := hv9
    show X k w _ 12 [some (.ref (wA w (x))), some (.int (a1))] [.int ((-2 : Int32))] (rcH h (x) 9) g
    refine X_i2l C (D (12, .i2l, 1) (mg 6 rfl)) ?_
    exact X_lret C (D (13, .lreturn, 1) (mg 7 rfl)) ⟨⟨_, rfl⟩, ⟨fun q i z0 => by have z := z0; unfold SW at z; rw [rcH_ne _ _ _ (by omega)], ⟨c0, (by omega), (((rcH_ne _ _ _ (by omega))).trans hat)⟩, (paOk_k (fun q i z => by rw [rcH_ne _ _ _ (by omega)]) hpa)⟩⟩
