/-! THE REFERENCE, 6: save, says, reaps, weeks, undo, the hand, high, green -/
theorem X_lose {k : Kx} {w : Kw} {Z : State → Prop} {pc : Nat} {ls ls' : List (Option Value)} {st : List Value} {h : xI} {g : xJ} (hn : ls.length = ls'.length) (hl : ∀ (i : Nat) (v : Value), ls'[i]? = some (some v) → ls[i]? = some (some v)) (kk : X k w Z pc ls' st h g) : X k w Z pc ls st h g := by
  obtain ⟨p, l, e, R, s, m, args, below, meth, c, A, cells, slots⟩ := k
  intro H locs arr hP hS hh
  exact kk H locs arr hP hS ⟨hh.1.trans hn, hh.2.1, fun i v e => hh.2.2 i v (hl i v e)⟩
def lsub : List (Option Value) → List (Option Value) → Prop
  | [], [] => True
  | a :: l, b :: r => (b = none ∨ a = b) ∧ lsub l r
  | _, _ => False
theorem lsub_get : ∀ {ls ls' : List (Option Value)}, lsub ls ls' → ls.length = ls'.length ∧ ∀ (i : Nat) (v : Value), ls'[i]? = some (some v) → ls[i]? = some (some v)
  | [], [], _ => ⟨rfl, fun i v e => by simp at e⟩
  | [], _ :: _, h => h.elim
  | _ :: _, [], h => h.elim
  | a :: l, b :: r, h => by
    obtain ⟨h1, h2⟩ := lsub_get h.2
    refine ⟨by simp [h1], fun i v e => ?_⟩
    match i with
    | 0 =>
      have e : b = some v := by simpa using e
      rcases h.1 with q | q
      · rw [q] at e; cases e
      · rw [q, e]; rfl
    | i + 1 => simpa using h2 i v (by simpa using e)
theorem X_los {k : Kx} {w : Kw} {Z : State → Prop} {pc : Nat} {ls ls' : List (Option Value)} {st : List Value} {h : xI} {g : xJ} (hs : lsub ls ls') (kk : X k w Z pc ls' st h g) : X k w Z pc ls st h g := X_lose (lsub_get hs).1 (lsub_get hs).2 kk
/-- a stretch of one row into another, or the same -/
def cpS (h : xI) (src a dst b n : Nat) : xI := fun p i => if p = dst ∧ b ≤ i ∧ i < b + n then h src (i - b + a) else h p i
theorem cpS_0 (h : xI) (src a dst b : Nat) : cpS h src a dst b 0 = h := by
  funext p i; unfold cpS; rw [if_neg (by omega)]
theorem cpS_n (h : xI) (src a dst b n : Nat) {p : Nat} (i : Nat) (hp : p ≠ dst) : cpS h src a dst b n p i = h p i := by
  unfold cpS; rw [if_neg (fun z => hp z.1)]
theorem cpS_o (h : xI) (src a dst b n p : Nat) {i : Nat} (hi : i < b ∨ b + n ≤ i) : cpS h src a dst b n p i = h p i := by
  unfold cpS; rw [if_neg (by omega)]
theorem cpS_s (h : xI) (src a dst b n : Nat) {v : Int32} (hv : h src (a + n) = v) : u2 (cpS h src a dst b n) dst (b + n) v = cpS h src a dst b (n + 1) := by
  subst hv
  funext p i
  by_cases e : p = dst ∧ i = b + n
  · obtain ⟨rfl, rfl⟩ := e
    rw [u2_s]
    unfold cpS
    rw [if_pos (by omega), show b + n - b + a = a + n by omega]
  · unfold u2
    rw [if_neg e]
    unfold cpS
    by_cases e2 : p = dst ∧ b ≤ i ∧ i < b + n
    · rw [if_pos e2, if_pos (by omega)]
    · rw [if_neg e2, if_neg (by omega)]
def haH (h : xI) (m : Nat) : xI := cpS h (m + 1) 0 (m + 5) 0 56
def wkN (q : Nat) : Nat → xI → xI
  | 0, h => h
  | n + 1, h => wkN q n (wkH h q)
def sv0 (h : xI) (q n : Nat) : xI := if n = 8 then u2 (cpS h q 121 q 94 189) q 2 (nI 7) else h
def sn (n : Nat) : Nat := if n = 8 then 7 else n
def svH (h : xI) (q n : Nat) : xI := u2 (cpS (sv0 h q n) q 3 q (94 + 27 * sn n) 27) q 2 (nI (sn n + 1))
set_option maxHeartbeats 4000000 in
set_option maxRecDepth 100000 in
theorem ct_X8_layHand {l : Launch} {w : Kw} (hw : wOk w) {m : Nat} (hM : shM w m) (h : xI) (g : xJ)  : Ct l w yX8_layHand cX8_layHand 2 none 0 0 [.ref (wA w (m))] h g (px none (haH h m) g) := by
  refine Ct_of (ls := [some (.ref (wA w (m))), none]) (by decide) hw (Nat.le_of_ble_eq_true rfl) rfl (fun k hkl C => ?_)
  have C : Cx k w cX8_layHand RX8 2 none 0 0 := C
  have D := dtX8_layHand
  subst hkl
  have hM0 := hM
  obtain ⟨hm, hsm, hs1, hs2, hs3, hs4, hs5, hs6, hs7, hs8, hs9, hs10, hs11⟩ := hM
  have hM := hM0
  refine X_iconst (v := nI (0)) C (D (0, .iconst 0, 1) (mg 0 rfl)) (by decide) ?_
  refine X_istore_n (ls' := [some (.ref (wA w (m))), some (.int (nI (0)))]) C 1 (D (1, .istore_n 1, 1) (mg 1 rfl)) rfl (Nat.le_of_ble_eq_true rfl) rfl ?_
  have lp2 : ∀ (nn2 : Nat) (j : Nat), (j ≤ 56) → 57 - j ≤ nn2 → X k w (Zq k w (px none (haH h m) g)) 2 [some (.ref (wA w (m))), some (.int (nI (j)))] [] (cpS h (m + 1) 0 (m + 5) 0 (j)) g := by
    intro nn2
    induction nn2 with
    | zero => intro j hc2_0 hz; exact absurd hz (by omega)
    | succ nn2 ih2 =>
      intro j hc2_0 hz2
      refine X_iload_n C 1 (D (2, .iload_n 1, 1) (mg 2 rfl)) rfl rfl ?_
      refine X_bipush (v := nI (56)) C (D (3, .bipush 56, 2) (mg 3 rfl)) (by decide) ?_
      refine X_icmp_ge (tgt := 26) C (D (5, .if_icmp .ge 21, 3) (mg 4 rfl)) (by decide) (fun q1 => ?_) (fun q1 => ?_)
      · skip
        have q1 : (j) ≥ (56) := by have z := (nI_leI (a := (56)) (b := (j)) (by omega) (by omega)).mp q1; omega
        exact X_vret C (D (26, .return_, 1) (mg 15 rfl)) ⟨rfl, by rw [show j = 56 by omega]; rfl, rfl⟩
      · skip
        have q1 : (j) < (56) := by have z : ¬ ((56) ≤ (j)) := fun u => q1 ((nI_leI (a := (56)) (b := (j)) (by omega) (by omega)).mpr u); omega
        refine X_aload_n C 0 (D (8, .aload_n 0, 1) (mg 5 rfl)) rfl rfl ?_
        refine X_get (v := .ref (wA w (m + 5))) C (m) 6 (by omega) hsm rfl rfl (by decide) inX8 fX8_27 rfl (D (9, .getfield 27, 3) (mg 6 rfl)) rfl ?_
        refine X_iload_n C 1 (D (12, .iload_n 1, 1) (mg 7 rfl)) rfl rfl ?_
        refine X_aload_n C 0 (D (13, .aload_n 0, 1) (mg 8 rfl)) rfl rfl ?_
        refine X_get (v := .ref (wA w (m + 1))) C (m) 0 (by omega) hsm rfl rfl (by decide) inX8 fX8_7 rfl (D (14, .getfield 7, 3) (mg 9 rfl)) rfl ?_
        refine X_iload_n C 1 (D (17, .iload_n 1, 1) (mg 10 rfl)) rfl rfl ?_
        refine X_iald (v := (cpS h (m + 1) 0 (m + 5) 0 (j)) (m + 1) (j)) C (m + 1) (by omega) hs1 (vp_in_nI (by omega) (by omega)) (D (18, .iaload, 1) (mg 11 rfl)) (by rw [nI_clamp (by omega)]) ?_
        refine X_iast (j := j) C (m + 5) (by omega) hs5 (vp_in_nI (by omega) (by omega)) (D (19, .iastore, 1) (mg 12 rfl)) (nI_clamp (by omega)) ?_
        refine X_iinc (v := nI (j + 1)) (ls' := [some (.ref (wA w (m))), some (.int (nI (j + 1)))]) C (D (20, .iinc 1 1, 3) (mg 13 rfl)) rfl (nI_add (j) 1) rfl ?_
        refine X_goto (tgt := 2) C (D (23, .goto (-21), 3) (mg 14 rfl)) (by decide) ?_
        refine X_eq (ls' := [some (.ref (wA w (m))), some (.int (nI (j + 1)))]) (st' := []) (h' := (cpS h (m + 1) 0 (m + 5) 0 (j + 1))) (g' := g) rfl rfl (by have z := cpS_s h (m + 1) 0 (m + 5) 0 (j) (v := cpS h (m + 1) 0 (m + 5) 0 (j) (m + 1) (j)) (by rw [Nat.zero_add]; exact (cpS_n h (m + 1) 0 (m + 5) 0 (j) _ (by omega)).symm); rw [Nat.zero_add] at z; exact z) rfl ?_
        exact ih2 (j + 1) (by omega) (by omega)
  refine X_eq (ls' := [some (.ref (wA w (m))), some (.int (nI (0)))]) (st' := []) (h' := (cpS h (m + 1) 0 (m + 5) 0 (0))) (g' := g) rfl rfl (cpS_0 h (m + 1) 0 (m + 5) 0).symm rfl ?_
  exact lp2 _ (0) (by omega) (Nat.le_refl _)
set_option maxHeartbeats 4000000 in
set_option maxRecDepth 100000 in
theorem ct_X8_goAhead {l : Launch} {w : Kw} (hw : wOk w) {m : Nat} (hM : shM w m) {N : Nat} (hN : N ≤ 99) (h : xI) (g : xJ)  : Ct l w yX8_goAhead cX8_goAhead 3 none 2 42 [.ref (wA w (m)), .int (nI (N))] h g (px none (wkN (m + 5) N h) g) := by
  refine Ct_of (ls := [some (.ref (wA w (m))), some (.int (nI (N))), none]) (by decide) hw (Nat.le_of_ble_eq_true rfl) rfl (fun k hkl C => ?_)
  have C : Cx k w cX8_goAhead RX8 3 none 2 42 := C
  have D := dtX8_goAhead
  subst hkl
  have hM0 := hM
  obtain ⟨hm, hsm, hs1, hs2, hs3, hs4, hs5, hs6, hs7, hs8, hs9, hs10, hs11⟩ := hM
  have hM := hM0
  refine X_iconst (v := nI (0)) C (D (0, .iconst 0, 1) (mg 0 rfl)) (by decide) ?_
  refine X_istore_n (ls' := [some (.ref (wA w (m))), some (.int (nI (N))), some (.int (nI (0)))]) C 2 (D (1, .istore_n 2, 1) (mg 1 rfl)) rfl (Nat.le_of_ble_eq_true rfl) rfl ?_
  have lp2 : ∀ (nn2 : Nat) (j : Nat) (hh : xI), (j ≤ N) → (wkN (m + 5) (N - j) hh = wkN (m + 5) N h) → N + 1 - j ≤ nn2 → X k w (Zq k w (px none (wkN (m + 5) N h) g)) 2 [some (.ref (wA w (m))), some (.int (nI (N))), some (.int (nI (j)))] [] hh g := by
    intro nn2
    induction nn2 with
    | zero => intro j hh hc2_0 hc2_1 hz; exact absurd hz (by omega)
    | succ nn2 ih2 =>
      intro j hh hc2_0 hc2_1 hz2
      refine X_iload_n C 2 (D (2, .iload_n 2, 1) (mg 2 rfl)) rfl rfl ?_
      refine X_iload_n C 1 (D (3, .iload_n 1, 1) (mg 3 rfl)) rfl rfl ?_
      refine X_icmp_ge (tgt := 20) C (D (4, .if_icmp .ge 16, 3) (mg 4 rfl)) (by decide) (fun q1 => ?_) (fun q1 => ?_)
      · skip
        have q1 : (j) ≥ (N) := by have z := (nI_leI (a := (N)) (b := (j)) (by omega) (by omega)).mp q1; omega
        exact X_vret C (D (20, .return_, 1) (mg 10 rfl)) ⟨rfl, by (rw [show N - j = 0 by omega] at hc2_1; exact hc2_1.symm), rfl⟩
      · skip
        have q1 : (j) < (N) := by have z : ¬ ((N) ≤ (j)) := fun u => q1 ((nI_leI (a := (N)) (b := (j)) (by omega) (by omega)).mpr u); omega
        refine X_aload_n C 0 (D (7, .aload_n 0, 1) (mg 5 rfl)) rfl rfl ?_
        refine X_get (v := .ref (wA w (m + 5))) C (m) 6 (by omega) hsm rfl rfl (by decide) inX8 fX8_27 rfl (D (8, .getfield 27, 3) (mg 6 rfl)) rfl ?_
        refine X_cS (As := [.ref (wA w (m + 5))]) (st := []) C (post := _) (ct_X8_goWeek hw (⟨by omega, hs5, by omega, by omega⟩ : rw56 w (m + 5) 56) hh g) kX8_121 (by decide) (by decide) rfl rfl (Nat.le_of_ble_eq_true rfl) (D (11, .invokestatic 121, 3) (mg 7 rfl)) rfl (fun v4 H2 G3 hv4 => ?_)
        obtain ⟨rfl, rfl, rfl⟩ := hv4
        show X k w _ 14 [some (.ref (wA w (m))), some (.int (nI (N))), some (.int (nI (j)))] [] (wkH hh (m + 5)) g
        refine X_iinc (v := nI (j + 1)) (ls' := [some (.ref (wA w (m))), some (.int (nI (N))), some (.int (nI (j + 1)))]) C (D (14, .iinc 2 1, 3) (mg 8 rfl)) rfl (nI_add (j) 1) rfl ?_
        refine X_goto (tgt := 2) C (D (17, .goto (-15), 3) (mg 9 rfl)) (by decide) ?_
        refine X_eq (ls' := [some (.ref (wA w (m))), some (.int (nI (N))), some (.int (nI (j + 1)))]) (st' := []) (h' := (wkH hh (m + 5))) (g' := g) rfl rfl rfl rfl ?_
        exact ih2 (j + 1) ((wkH hh (m + 5))) (by omega) (by rw [← hc2_1, show N - j = (N - (j + 1)) + 1 by omega]; rfl) (by omega)
  refine X_eq (ls' := [some (.ref (wA w (m))), some (.int (nI (N))), some (.int (nI (0)))]) (st' := []) (h' := h) (g' := g) rfl rfl rfl rfl ?_
  exact lp2 _ (0) (h) (by omega) (by rw [Nat.sub_zero]) (Nat.le_refl _)
set_option maxHeartbeats 4000000 in
set_option maxRecDepth 100000 in
theorem ct_X8_high {l : Launch} {w : Kw} (hw : wOk w) {m : Nat} (hM : shM w m) (c x : Int32) (h : xI) (g : xJ)  : Ct l w yX8_high cX8_high 3 (some .int) 3 64 [.ref (wA w (m)), .int (c), .int (x)] h g (pif ((0 ≤ c.toInt ∧ c.toInt < 25) ∧ (0 ≤ x.toInt ∧ x.toInt ≤ 60)) (px (some (.int (hiV (wkN (m + 5) x.toInt.toNat (haH h m) (m + 5) (3 + c.toInt.toNat))))) (wkN (m + 5) x.toInt.toNat (haH h m)) g) (px (some (.int (-2 : Int32))) (rfH h m 0) g)) := by
  refine Ct_of (ls := [some (.ref (wA w (m))), some (.int (c)), some (.int (x))]) (by decide) hw (Nat.le_of_ble_eq_true rfl) rfl (fun k hkl C => ?_)
  have C : Cx k w cX8_high RX8 3 (some .int) 3 64 := C
  have D := dtX8_high
  subst hkl
  have hM0 := hM
  obtain ⟨hm, hsm, hs1, hs2, hs3, hs4, hs5, hs6, hs7, hs8, hs9, hs10, hs11⟩ := hM
  have hM := hM0
  refine X_iload_n C 1 (D (0, .iload_n 1, 1) (mg 0 rfl)) rfl rfl ?_
  refine X_cS (As := [.int (c)]) (st := []) C (post := _) (ct_X8_isCell hw (c) h g) kX8_72 (by decide) (by decide) rfl rfl (Nat.le_of_ble_eq_true rfl) (D (1, .invokestatic 72, 3) (mg 1 rfl)) rfl (fun v3 H1 G2 hv3 => ?_)
  obtain ⟨rfl, rfl, rfl⟩ := hv3
  show X k w _ 4 [some (.ref (wA w (m))), some (.int (c)), some (.int (x))] [.int (if 0 ≤ (c).toInt ∧ (c).toInt < 25 then 1 else 0)] h g
  refine X_if_eq (tgt := 19) C (D (4, .ifCond .eq 15, 3) (mg 2 rfl)) (by decide) (fun q4 => ?_) (fun q4 => ?_)
  · skip
    have q4 : ¬ (0 ≤ (c).toInt ∧ (c).toInt < 25) := bz0.mp q4
    refine X_aload_n C 0 (D (19, .aload_n 0, 1) (mg 9 rfl)) rfl rfl ?_
    refine X_bipush (v := (-2 : Int32)) C (D (20, .bipush (-2), 2) (mg 10 rfl)) (by decide) ?_
    refine X_cV (As := [.int ((-2 : Int32))]) (st := []) C (post := _) (m) (by omega) hsm rfl (ct_X8_bad hw hM ((-2 : Int32)) h g) kX8_75 (by decide) (by decide) rfl rfl (Nat.le_of_ble_eq_true rfl) (D (22, .invokevirtual 75, 3) (mg 11 rfl)) rfl (fun v7 H5 G6 hv7 => ?_)
    obtain ⟨rfl, rfl, rfl⟩ := hv7
    show X k w _ 25 [some (.ref (wA w (m))), some (.int (c)), some (.int (x))] [.int ((-2 : Int32))] (rfH h m 0) g
    exact X_iret C (D (25, .ireturn, 1) (mg 12 rfl)) ⟨fun z => absurd z (by omega), fun _ => ⟨rfl, rfl, rfl⟩⟩
  · skip
    have q4 : (0 ≤ (c).toInt ∧ (c).toInt < 25) := bz1.mp q4
    obtain ⟨j, hj, rfl⟩ := nI_i (n := 25) q4.1 (by omega)
    refine X_iload_n C 2 (D (7, .iload_n 2, 1) (mg 3 rfl)) rfl rfl ?_
    refine X_i2l C (D (8, .i2l, 1) (mg 4 rfl)) ?_
    refine X_lconst (v := lN 0) C (D (9, .lconst 0, 1) (mg 5 rfl)) (by decide) ?_
    refine X_ldc2 C (D (10, .ldc2_w 138, 3) (mg 6 rfl)) vX8_138 ?_
    refine X_cS (As := [.long ((x).toInt64), .long (lN 0), .long ((60 : Int64))]) (st := []) C (post := _) (ct_X8_in hw ((x).toInt64) (lN 0) ((60 : Int64)) h g) kX8_54 (by decide) (by decide) rfl rfl (Nat.le_of_ble_eq_true rfl) (D (13, .invokestatic 54, 3) (mg 7 rfl)) rfl (fun v10 H8 G9 hv10 => ?_)
    obtain ⟨rfl, rfl, rfl⟩ := hv10
    show X k w _ 16 [some (.ref (wA w (m))), some (.int (nI (j))), some (.int (x))] [.int (if (lN 0).toInt ≤ ((x).toInt64).toInt ∧ ((x).toInt64).toInt ≤ ((60 : Int64)).toInt then 1 else 0)] h g
    refine X_if_ne (tgt := 26) C (D (16, .ifCond .ne 10, 3) (mg 8 rfl)) (by decide) (fun q11 => ?_) (fun q11 => ?_)
    · skip
      have q11 : ((lN 0).toInt ≤ ((x).toInt64).toInt ∧ ((x).toInt64).toInt ≤ ((60 : Int64)).toInt) := bz1.mp q11
      simp only [i6, show (lN 0).toInt = 0 from by decide, show (60 : Int64).toInt = 60 from by decide] at q11
      obtain ⟨i, hi, rfl⟩ := nI_i (n := 61) q11.1 (by omega)
      refine X_aload_n C 0 (D (26, .aload_n 0, 1) (mg 13 rfl)) rfl rfl ?_
      refine X_cV (As := []) (st := []) C (post := _) (m) (by omega) hsm rfl (ct_X8_layHand hw hM h g) kX8_149 (by decide) (by decide) rfl rfl (Nat.le_of_ble_eq_true rfl) (D (27, .invokevirtual 149, 3) (mg 14 rfl)) rfl (fun v14 H12 G13 hv14 => ?_)
      obtain ⟨rfl, rfl, rfl⟩ := hv14
      show X k w _ 30 [some (.ref (wA w (m))), some (.int (nI (j))), some (.int (nI (i)))] [] (haH h m) g
      refine X_aload_n C 0 (D (30, .aload_n 0, 1) (mg 15 rfl)) rfl rfl ?_
      refine X_iload_n C 2 (D (31, .iload_n 2, 1) (mg 16 rfl)) rfl rfl ?_
      refine X_cV (As := [.int (nI (i))]) (st := []) C (post := _) (m) (by omega) hsm rfl (ct_X8_goAhead hw hM (by omega) (haH h m) g) kX8_152 (by decide) (by decide) rfl rfl (Nat.le_of_ble_eq_true rfl) (D (32, .invokevirtual 152, 3) (mg 17 rfl)) rfl (fun v17 H15 G16 hv17 => ?_)
      obtain ⟨rfl, rfl, rfl⟩ := hv17
      show X k w _ 35 [some (.ref (wA w (m))), some (.int (nI (j))), some (.int (nI (i)))] [] (wkN (m + 5) (i) (haH h m)) g
      refine X_aload_n C 0 (D (35, .aload_n 0, 1) (mg 18 rfl)) rfl rfl ?_
      refine X_get (v := .ref (wA w (m + 5))) C (m) 6 (by omega) hsm rfl rfl (by decide) inX8 fX8_27 rfl (D (36, .getfield 27, 3) (mg 19 rfl)) rfl ?_
      refine X_iload_n C 1 (D (39, .iload_n 1, 1) (mg 20 rfl)) rfl rfl ?_
      refine X_cS (As := [.ref (wA w (m + 5)), .int (nI (j))]) (st := []) C (post := _) (ct_X8_highOf hw (⟨by omega, hs5, by omega, by omega⟩ : rw56 w (m + 5) 56) (by omega) (wkN (m + 5) (i) (haH h m)) g) kX8_107 (by decide) (by decide) rfl rfl (Nat.le_of_ble_eq_true rfl) (D (40, .invokestatic 107, 3) (mg 21 rfl)) rfl (fun v20 H18 G19 hv20 => ?_)
      obtain ⟨rfl, rfl, rfl⟩ := hv20
      show X k w _ 43 [some (.ref (wA w (m))), some (.int (nI (j))), some (.int (nI (i)))] [.int (hiV ((wkN (m + 5) (i) (haH h m)) (m + 5) (3 + (j))))] (wkN (m + 5) (i) (haH h m)) g
      exact X_iret C (D (43, .ireturn, 1) (mg 22 rfl)) ⟨fun _ => ⟨by rw [nI_toInt (n := j) (by omega), nI_toInt (n := i) (by omega), Int.toNat_natCast, Int.toNat_natCast], by rw [nI_toInt (by omega), Int.toNat_natCast], rfl⟩, fun z => absurd (by omega) z⟩
    · skip
      have q11 : ¬ ((lN 0).toInt ≤ ((x).toInt64).toInt ∧ ((x).toInt64).toInt ≤ ((60 : Int64)).toInt) := bz0.mp q11
      simp only [i6, show (lN 0).toInt = 0 from by decide, show (60 : Int64).toInt = 60 from by decide] at q11
      refine X_aload_n C 0 (D (19, .aload_n 0, 1) (mg 9 rfl)) rfl rfl ?_
      refine X_bipush (v := (-2 : Int32)) C (D (20, .bipush (-2), 2) (mg 10 rfl)) (by decide) ?_
      refine X_cV (As := [.int ((-2 : Int32))]) (st := []) C (post := _) (m) (by omega) hsm rfl (ct_X8_bad hw hM ((-2 : Int32)) h g) kX8_75 (by decide) (by decide) rfl rfl (Nat.le_of_ble_eq_true rfl) (D (22, .invokevirtual 75, 3) (mg 11 rfl)) rfl (fun v23 H21 G22 hv23 => ?_)
      obtain ⟨rfl, rfl, rfl⟩ := hv23
      show X k w _ 25 [some (.ref (wA w (m))), some (.int (nI (j))), some (.int (x))] [.int ((-2 : Int32))] (rfH h m 0) g
      exact X_iret C (D (25, .ireturn, 1) (mg 12 rfl)) ⟨fun z => absurd z (by omega), fun _ => ⟨rfl, rfl, rfl⟩⟩
set_option maxHeartbeats 4000000 in
set_option maxRecDepth 100000 in
theorem ct_X8_green {l : Launch} {w : Kw} (hw : wOk w) {m : Nat} (hM : shM w m) (x : Int32) (h : xI) (g : xJ)  : Ct l w yX8_green cX8_green 2 (some .int) 3 69 [.ref (wA w (m)), .int (x)] h g (pif (0 ≤ x.toInt ∧ x.toInt ≤ 60) (px (some (.int (nI (cn (fun c => ¬ hiV (wkN (m + 5) x.toInt.toNat (haH h m) (m + 5) (3 + c)) < nI 1) 25)))) (wkN (m + 5) x.toInt.toNat (haH h m)) g) (px (some (.int (-2 : Int32))) (rfH h m 0) g)) := by
  refine Ct_of (ls := [some (.ref (wA w (m))), some (.int (x))]) (by decide) hw (Nat.le_of_ble_eq_true rfl) rfl (fun k hkl C => ?_)
  have C : Cx k w cX8_green RX8 2 (some .int) 3 69 := C
  have D := dtX8_green
  subst hkl
  have hM0 := hM
  obtain ⟨hm, hsm, hs1, hs2, hs3, hs4, hs5, hs6, hs7, hs8, hs9, hs10, hs11⟩ := hM
  have hM := hM0
  refine X_iload_n C 1 (D (0, .iload_n 1, 1) (mg 0 rfl)) rfl rfl ?_
  refine X_i2l C (D (1, .i2l, 1) (mg 1 rfl)) ?_
  refine X_lconst (v := lN 0) C (D (2, .lconst 0, 1) (mg 2 rfl)) (by decide) ?_
  refine X_ldc2 C (D (3, .ldc2_w 138, 3) (mg 3 rfl)) vX8_138 ?_
  refine X_cS (As := [.long ((x).toInt64), .long (lN 0), .long ((60 : Int64))]) (st := []) C (post := _) (ct_X8_in hw ((x).toInt64) (lN 0) ((60 : Int64)) h g) kX8_54 (by decide) (by decide) rfl rfl (Nat.le_of_ble_eq_true rfl) (D (6, .invokestatic 54, 3) (mg 4 rfl)) rfl (fun v3 H1 G2 hv3 => ?_)
  obtain ⟨rfl, rfl, rfl⟩ := hv3
  show X k w _ 9 [some (.ref (wA w (m))), some (.int (x))] [.int (if (lN 0).toInt ≤ ((x).toInt64).toInt ∧ ((x).toInt64).toInt ≤ ((60 : Int64)).toInt then 1 else 0)] h g
  refine X_if_ne (tgt := 19) C (D (9, .ifCond .ne 10, 3) (mg 5 rfl)) (by decide) (fun q4 => ?_) (fun q4 => ?_)
  · skip
    have q4 : ((lN 0).toInt ≤ ((x).toInt64).toInt ∧ ((x).toInt64).toInt ≤ ((60 : Int64)).toInt) := bz1.mp q4
    simp only [i6, show (lN 0).toInt = 0 from by decide, show (60 : Int64).toInt = 60 from by decide] at q4
    obtain ⟨i, hi, rfl⟩ := nI_i (n := 61) q4.1 (by omega)
    refine X_aload_n C 0 (D (19, .aload_n 0, 1) (mg 10 rfl)) rfl rfl ?_
    refine X_cV (As := []) (st := []) C (post := _) (m) (by omega) hsm rfl (ct_X8_layHand hw hM h g) kX8_149 (by decide) (by decide) rfl rfl (Nat.le_of_ble_eq_true rfl) (D (20, .invokevirtual 149, 3) (mg 11 rfl)) rfl (fun v7 H5 G6 hv7 => ?_)
    obtain ⟨rfl, rfl, rfl⟩ := hv7
    show X k w _ 23 [some (.ref (wA w (m))), some (.int (nI (i)))] [] (haH h m) g
    refine X_aload_n C 0 (D (23, .aload_n 0, 1) (mg 12 rfl)) rfl rfl ?_
    refine X_iload_n C 1 (D (24, .iload_n 1, 1) (mg 13 rfl)) rfl rfl ?_
    refine X_cV (As := [.int (nI (i))]) (st := []) C (post := _) (m) (by omega) hsm rfl (ct_X8_goAhead hw hM (by omega) (haH h m) g) kX8_152 (by decide) (by decide) rfl rfl (Nat.le_of_ble_eq_true rfl) (D (25, .invokevirtual 152, 3) (mg 14 rfl)) rfl (fun v10 H8 G9 hv10 => ?_)
    obtain ⟨rfl, rfl, rfl⟩ := hv10
    show X k w _ 28 [some (.ref (wA w (m))), some (.int (nI (i)))] [] (wkN (m + 5) (i) (haH h m)) g
    refine X_aload_n C 0 (D (28, .aload_n 0, 1) (mg 15 rfl)) rfl rfl ?_
    refine X_get (v := .ref (wA w (m + 5))) C (m) 6 (by omega) hsm rfl rfl (by decide) inX8 fX8_27 rfl (D (29, .getfield 27, 3) (mg 16 rfl)) rfl ?_
    refine X_iconst (v := nI (1)) C (D (32, .iconst 1, 1) (mg 17 rfl)) (by decide) ?_
    refine X_cS (As := [.ref (wA w (m + 5)), .int (nI (1))]) (st := []) C (post := _) (ct_X8_manyAtLeast hw (⟨by omega, hs5, by omega, by omega⟩ : rw56 w (m + 5) 56) (nI (1)) (wkN (m + 5) (i) (haH h m)) g) kX8_143 (by decide) (by decide) rfl rfl (Nat.le_of_ble_eq_true rfl) (D (33, .invokestatic 143, 3) (mg 18 rfl)) rfl (fun v13 H11 G12 hv13 => ?_)
    obtain ⟨rfl, rfl, rfl⟩ := hv13
    show X k w _ 36 [some (.ref (wA w (m))), some (.int (nI (i)))] [.int (nI (cn (fun c => ¬ hiV ((wkN (m + 5) (i) (haH h m)) (m + 5) (3 + c)) < nI (1)) 25))] (wkN (m + 5) (i) (haH h m)) g
    exact X_iret C (D (36, .ireturn, 1) (mg 19 rfl)) ⟨fun _ => ⟨by rw [nI_toInt (by omega), Int.toNat_natCast], by rw [nI_toInt (by omega), Int.toNat_natCast], rfl⟩, fun z => absurd (by omega) z⟩
  · skip
    have q4 : ¬ ((lN 0).toInt ≤ ((x).toInt64).toInt ∧ ((x).toInt64).toInt ≤ ((60 : Int64)).toInt) := bz0.mp q4
    simp only [i6, show (lN 0).toInt = 0 from by decide, show (60 : Int64).toInt = 60 from by decide] at q4
    refine X_aload_n C 0 (D (12, .aload_n 0, 1) (mg 6 rfl)) rfl rfl ?_
    refine X_bipush (v := (-2 : Int32)) C (D (13, .bipush (-2), 2) (mg 7 rfl)) (by decide) ?_
    refine X_cV (As := [.int ((-2 : Int32))]) (st := []) C (post := _) (m) (by omega) hsm rfl (ct_X8_bad hw hM ((-2 : Int32)) h g) kX8_75 (by decide) (by decide) rfl rfl (Nat.le_of_ble_eq_true rfl) (D (15, .invokevirtual 75, 3) (mg 8 rfl)) rfl (fun v16 H14 G15 hv16 => ?_)
    obtain ⟨rfl, rfl, rfl⟩ := hv16
    show X k w _ 18 [some (.ref (wA w (m))), some (.int (x))] [.int ((-2 : Int32))] (rfH h m 0) g
    exact X_iret C (D (18, .ireturn, 1) (mg 9 rfl)) ⟨fun z => absurd z (by omega), fun _ => ⟨rfl, rfl, rfl⟩⟩
set_option maxHeartbeats 4000000 in
set_option maxRecDepth 100000 in
theorem ct_X8_save {l : Launch} {w : Kw} (hw : wOk w) {m : Nat} (hM : shM w m) {n : Nat} (hn : n ≤ 8) (h : xI) (g : xJ) (hb : h (m + 1) 2 = nI n) : Ct l w yX8_save cX8_save 2 none 0 0 [.ref (wA w (m))] h g (px none (svH h (m + 1) n) g) := by
  refine Ct_of (ls := [some (.ref (wA w (m))), none]) (by decide) hw (Nat.le_of_ble_eq_true rfl) rfl (fun k hkl C => ?_)
  have C : Cx k w cX8_save RX8 2 none 0 0 := C
  have D := dtX8_save
  subst hkl
  have hM0 := hM
  obtain ⟨hm, hsm, hs1, hs2, hs3, hs4, hs5, hs6, hs7, hs8, hs9, hs10, hs11⟩ := hM
  have hM := hM0
  have jn52 : ∀ (hh : xI) (n1 : Nat), (n1 ≤ 7) → (hh (m + 1) 2 = nI n1) → (u2 (cpS hh (m + 1) 3 (m + 1) (94 + 27 * n1) 27) (m + 1) 2 (nI (n1 + 1)) = svH h (m + 1) n) → X k w (Zq k w (px none (svH h (m + 1) n) g)) 52 [some (.ref (wA w (m))), none] [] hh g := by
    intro hh n1 hc52_0 hc52_1 hc52_2
    refine X_iconst (v := nI (0)) C (D (52, .iconst 0, 1) (mg 30 rfl)) (by decide) ?_
    refine X_istore_n (ls' := [some (.ref (wA w (m))), some (.int (nI (0)))]) C 1 (D (53, .istore_n 1, 1) (mg 31 rfl)) rfl (Nat.le_of_ble_eq_true rfl) rfl ?_
    have lp54 : ∀ (nn54 : Nat) (j : Nat), (j ≤ 27) → 28 - j ≤ nn54 → X k w (Zq k w (px none (svH h (m + 1) n) g)) 54 [some (.ref (wA w (m))), some (.int (nI (j)))] [] (cpS hh (m + 1) 3 (m + 1) (94 + 27 * n1) (j)) g := by
      intro nn54
      induction nn54 with
      | zero => intro j hc54_0 hz; exact absurd hz (by omega)
      | succ nn54 ih54 =>
        intro j hc54_0 hz54
        refine X_iload_n C 1 (D (54, .iload_n 1, 1) (mg 32 rfl)) rfl rfl ?_
        refine X_bipush (v := nI (27)) C (D (55, .bipush 27, 2) (mg 33 rfl)) (by decide) ?_
        refine X_icmp_ge (tgt := 93) C (D (57, .if_icmp .ge 36, 3) (mg 34 rfl)) (by decide) (fun q1 => ?_) (fun q1 => ?_)
        · skip
          have q1 : (j) ≥ (27) := by have z := (nI_leI (a := (27)) (b := (j)) (by omega) (by omega)).mp q1; omega
          refine X_aload_n C 0 (D (93, .aload_n 0, 1) (mg 56 rfl)) rfl rfl ?_
          refine X_get (v := .ref (wA w (m + 1))) C (m) 0 (by omega) hsm rfl rfl (by decide) inX8 fX8_7 rfl (D (94, .getfield 7, 3) (mg 57 rfl)) rfl ?_
          refine X_iconst (v := nI (2)) C (D (97, .iconst 2, 1) (mg 58 rfl)) (by decide) ?_
          refine X_dup2 C (D (98, .dup2, 1) (mg 59 rfl)) rfl rfl ?_
          refine X_iald (v := (cpS hh (m + 1) 3 (m + 1) (94 + 27 * n1) (j)) (m + 1) (2)) C (m + 1) (by omega) hs1 (vp_in_nI (by omega) (by omega)) (D (99, .iaload, 1) (mg 60 rfl)) (by rw [nI_clamp (by omega)]) ?_
          refine X_ti (y := nI (n1)) (by rw [cpS_o _ _ _ _ _ _ _ (by omega)]; exact hc52_1) ?_
          refine X_iconst (v := nI (1)) C (D (100, .iconst 1, 1) (mg 61 rfl)) (by decide) ?_
          refine X_iadd C (D (101, .iadd, 1) (mg 62 rfl)) ?_
          refine X_ti (y := nI (n1 + 1)) (nI_add (n1) (1)) ?_
          refine X_iast (j := 2) C (m + 1) (by omega) hs1 (vp_in_nI (by omega) (by omega)) (D (102, .iastore, 1) (mg 63 rfl)) (nI_clamp (by omega)) ?_
          exact X_vret C (D (103, .return_, 1) (mg 64 rfl)) ⟨rfl, by rw [show j = 27 by omega]; exact hc52_2.symm, rfl⟩
        · skip
          have q1 : (j) < (27) := by have z : ¬ ((27) ≤ (j)) := fun u => q1 ((nI_leI (a := (27)) (b := (j)) (by omega) (by omega)).mpr u); omega
          refine X_aload_n C 0 (D (60, .aload_n 0, 1) (mg 35 rfl)) rfl rfl ?_
          refine X_get (v := .ref (wA w (m + 1))) C (m) 0 (by omega) hsm rfl rfl (by decide) inX8 fX8_7 rfl (D (61, .getfield 7, 3) (mg 36 rfl)) rfl ?_
          refine X_bipush (v := nI (94)) C (D (64, .bipush 94, 2) (mg 37 rfl)) (by decide) ?_
          refine X_bipush (v := nI (27)) C (D (66, .bipush 27, 2) (mg 38 rfl)) (by decide) ?_
          refine X_aload_n C 0 (D (68, .aload_n 0, 1) (mg 39 rfl)) rfl rfl ?_
          refine X_get (v := .ref (wA w (m + 1))) C (m) 0 (by omega) hsm rfl rfl (by decide) inX8 fX8_7 rfl (D (69, .getfield 7, 3) (mg 40 rfl)) rfl ?_
          refine X_iconst (v := nI (2)) C (D (72, .iconst 2, 1) (mg 41 rfl)) (by decide) ?_
          refine X_iald (v := (cpS hh (m + 1) 3 (m + 1) (94 + 27 * n1) (j)) (m + 1) (2)) C (m + 1) (by omega) hs1 (vp_in_nI (by omega) (by omega)) (D (73, .iaload, 1) (mg 42 rfl)) (by rw [nI_clamp (by omega)]) ?_
          refine X_ti (y := nI (n1)) (by rw [cpS_o _ _ _ _ _ _ _ (by omega)]; exact hc52_1) ?_
          refine X_imul C (D (74, .imul, 1) (mg 43 rfl)) ?_
          refine X_ti (y := nI ((27) * (n1))) (pk_mul (27) (n1)) ?_
          refine X_iadd C (D (75, .iadd, 1) (mg 44 rfl)) ?_
          refine X_ti (y := nI (94 + (27) * (n1))) (nI_add (94) ((27) * (n1))) ?_
          refine X_iload_n C 1 (D (76, .iload_n 1, 1) (mg 45 rfl)) rfl rfl ?_
          refine X_iadd C (D (77, .iadd, 1) (mg 46 rfl)) ?_
          refine X_ti (y := nI (94 + (27) * (n1) + j)) (nI_add (94 + (27) * (n1)) (j)) ?_
          refine X_aload_n C 0 (D (78, .aload_n 0, 1) (mg 47 rfl)) rfl rfl ?_
          refine X_get (v := .ref (wA w (m + 1))) C (m) 0 (by omega) hsm rfl rfl (by decide) inX8 fX8_7 rfl (D (79, .getfield 7, 3) (mg 48 rfl)) rfl ?_
          refine X_iconst (v := nI (3)) C (D (82, .iconst 3, 1) (mg 49 rfl)) (by decide) ?_
          refine X_iload_n C 1 (D (83, .iload_n 1, 1) (mg 50 rfl)) rfl rfl ?_
          refine X_iadd C (D (84, .iadd, 1) (mg 51 rfl)) ?_
          refine X_ti (y := nI (3 + j)) (nI_add (3) (j)) ?_
          refine X_iald (v := (cpS hh (m + 1) 3 (m + 1) (94 + 27 * n1) (j)) (m + 1) (3 + j)) C (m + 1) (by omega) hs1 (vp_in_nI (by omega) (by omega)) (D (85, .iaload, 1) (mg 52 rfl)) (by rw [nI_clamp (by omega)]) ?_
          refine X_iast (j := 94 + (27) * (n1) + j) C (m + 1) (by omega) hs1 (vp_in_nI (by omega) (by omega)) (D (86, .iastore, 1) (mg 53 rfl)) (nI_clamp (by omega)) ?_
          refine X_iinc (v := nI (j + 1)) (ls' := [some (.ref (wA w (m))), some (.int (nI (j + 1)))]) C (D (87, .iinc 1 1, 3) (mg 54 rfl)) rfl (nI_add (j) 1) rfl ?_
          refine X_goto (tgt := 54) C (D (90, .goto (-36), 3) (mg 55 rfl)) (by decide) ?_
          refine X_eq (ls' := [some (.ref (wA w (m))), some (.int (nI (j + 1)))]) (st' := []) (h' := (cpS hh (m + 1) 3 (m + 1) (94 + 27 * n1) (j + 1))) (g' := g) rfl rfl (cpS_s hh (m + 1) 3 (m + 1) (94 + 27 * n1) (j) (cpS_o hh (m + 1) 3 (m + 1) (94 + 27 * n1) (j) (m + 1) (by omega)).symm) rfl ?_
          exact ih54 (j + 1) (by omega) (by omega)
    refine X_eq (ls' := [some (.ref (wA w (m))), some (.int (nI (0)))]) (st' := []) (h' := (cpS hh (m + 1) 3 (m + 1) (94 + 27 * n1) (0))) (g' := g) rfl rfl (cpS_0 hh (m + 1) 3 (m + 1) (94 + 27 * n1)).symm rfl ?_
    exact lp54 _ (0) (by omega) (Nat.le_refl _)
  refine X_aload_n C 0 (D (0, .aload_n 0, 1) (mg 0 rfl)) rfl rfl ?_
  refine X_get (v := .ref (wA w (m + 1))) C (m) 0 (by omega) hsm rfl rfl (by decide) inX8 fX8_7 rfl (D (1, .getfield 7, 3) (mg 1 rfl)) rfl ?_
  refine X_iconst (v := nI (2)) C (D (4, .iconst 2, 1) (mg 2 rfl)) (by decide) ?_
  refine X_iald (v := h (m + 1) (2)) C (m + 1) (by omega) hs1 (vp_in_nI (by omega) (by omega)) (D (5, .iaload, 1) (mg 3 rfl)) (by rw [nI_clamp (by omega)]) ?_
  refine X_ti (y := nI (n)) hb ?_
  refine X_bipush (v := nI (8)) C (D (6, .bipush 8, 2) (mg 4 rfl)) (by decide) ?_
  refine X_icmp_ne (tgt := 52) C (D (8, .if_icmp .ne 44, 3) (mg 5 rfl)) (by decide) (fun q2 => ?_) (fun q2 => ?_)
  · skip
    have q2 : (n) ≠ (8) := by have z : ¬ ((n) = (8)) := fun u => q2 ((nI_eq (a := (n)) (b := (8)) (by omega) (by omega)).mpr u); omega
    refine X_eq (ls' := [some (.ref (wA w (m))), none]) (st' := []) (h' := h) (g' := g) rfl rfl rfl rfl ?_
    exact jn52 (h) (n) (by omega) hb (by unfold svH sv0 sn; rw [if_neg (by omega), if_neg (by omega)])
  · skip
    have q2 : (n) = (8) := by have z := (nI_eq (a := (n)) (b := (8)) (by omega) (by omega)).mp q2; omega
    refine X_iconst (v := nI (0)) C (D (11, .iconst 0, 1) (mg 6 rfl)) (by decide) ?_
    refine X_istore_n (ls' := [some (.ref (wA w (m))), some (.int (nI (0)))]) C 1 (D (12, .istore_n 1, 1) (mg 7 rfl)) rfl (Nat.le_of_ble_eq_true rfl) rfl ?_
    have lp13 : ∀ (nn13 : Nat) (j : Nat), (j ≤ 189) → 190 - j ≤ nn13 → X k w (Zq k w (px none (svH h (m + 1) n) g)) 13 [some (.ref (wA w (m))), some (.int (nI (j)))] [] (cpS h (m + 1) 121 (m + 1) 94 (j)) g := by
      intro nn13
      induction nn13 with
      | zero => intro j hc13_0 hz; exact absurd hz (by omega)
      | succ nn13 ih13 =>
        intro j hc13_0 hz13
        refine X_iload_n C 1 (D (13, .iload_n 1, 1) (mg 8 rfl)) rfl rfl ?_
        refine X_sipush (v := nI (189)) C (D (14, .sipush 189, 3) (mg 9 rfl)) (by decide) ?_
        refine X_icmp_ge (tgt := 44) C (D (17, .if_icmp .ge 27, 3) (mg 10 rfl)) (by decide) (fun q3 => ?_) (fun q3 => ?_)
        · skip
          have q3 : (j) ≥ (189) := by have z := (nI_leI (a := (189)) (b := (j)) (by omega) (by omega)).mp q3; omega
          refine X_aload_n C 0 (D (44, .aload_n 0, 1) (mg 25 rfl)) rfl rfl ?_
          refine X_get (v := .ref (wA w (m + 1))) C (m) 0 (by omega) hsm rfl rfl (by decide) inX8 fX8_7 rfl (D (45, .getfield 7, 3) (mg 26 rfl)) rfl ?_
          refine X_iconst (v := nI (2)) C (D (48, .iconst 2, 1) (mg 27 rfl)) (by decide) ?_
          refine X_bipush (v := nI (7)) C (D (49, .bipush 7, 2) (mg 28 rfl)) (by decide) ?_
          refine X_iast (j := 2) C (m + 1) (by omega) hs1 (vp_in_nI (by omega) (by omega)) (D (51, .iastore, 1) (mg 29 rfl)) (nI_clamp (by omega)) ?_
          refine X_los (ls' := [some (.ref (wA w (m))), none]) (by simp [lsub]) ?_
          refine X_eq (ls' := [some (.ref (wA w (m))), none]) (st' := []) (h' := u2 (cpS h (m + 1) 121 (m + 1) 94 189) (m + 1) 2 (nI 7)) (g' := g) rfl rfl (by rw [show j = 189 by omega]) rfl ?_
          exact jn52 (u2 (cpS h (m + 1) 121 (m + 1) 94 189) (m + 1) 2 (nI 7)) (7) (by omega) (u2_s _ _ _ _) (by unfold svH sv0 sn; rw [if_pos (by omega), if_pos (by omega)])
        · skip
          have q3 : (j) < (189) := by have z : ¬ ((189) ≤ (j)) := fun u => q3 ((nI_leI (a := (189)) (b := (j)) (by omega) (by omega)).mpr u); omega
          refine X_aload_n C 0 (D (20, .aload_n 0, 1) (mg 11 rfl)) rfl rfl ?_
          refine X_get (v := .ref (wA w (m + 1))) C (m) 0 (by omega) hsm rfl rfl (by decide) inX8 fX8_7 rfl (D (21, .getfield 7, 3) (mg 12 rfl)) rfl ?_
          refine X_bipush (v := nI (94)) C (D (24, .bipush 94, 2) (mg 13 rfl)) (by decide) ?_
          refine X_iload_n C 1 (D (26, .iload_n 1, 1) (mg 14 rfl)) rfl rfl ?_
          refine X_iadd C (D (27, .iadd, 1) (mg 15 rfl)) ?_
          refine X_ti (y := nI (94 + j)) (nI_add (94) (j)) ?_
          refine X_aload_n C 0 (D (28, .aload_n 0, 1) (mg 16 rfl)) rfl rfl ?_
          refine X_get (v := .ref (wA w (m + 1))) C (m) 0 (by omega) hsm rfl rfl (by decide) inX8 fX8_7 rfl (D (29, .getfield 7, 3) (mg 17 rfl)) rfl ?_
          refine X_bipush (v := nI (121)) C (D (32, .bipush 121, 2) (mg 18 rfl)) (by decide) ?_
          refine X_iload_n C 1 (D (34, .iload_n 1, 1) (mg 19 rfl)) rfl rfl ?_
          refine X_iadd C (D (35, .iadd, 1) (mg 20 rfl)) ?_
          refine X_ti (y := nI (121 + j)) (nI_add (121) (j)) ?_
          refine X_iald (v := (cpS h (m + 1) 121 (m + 1) 94 (j)) (m + 1) (121 + j)) C (m + 1) (by omega) hs1 (vp_in_nI (by omega) (by omega)) (D (36, .iaload, 1) (mg 21 rfl)) (by rw [nI_clamp (by omega)]) ?_
          refine X_iast (j := 94 + j) C (m + 1) (by omega) hs1 (vp_in_nI (by omega) (by omega)) (D (37, .iastore, 1) (mg 22 rfl)) (nI_clamp (by omega)) ?_
          refine X_iinc (v := nI (j + 1)) (ls' := [some (.ref (wA w (m))), some (.int (nI (j + 1)))]) C (D (38, .iinc 1 1, 3) (mg 23 rfl)) rfl (nI_add (j) 1) rfl ?_
          refine X_goto (tgt := 13) C (D (41, .goto (-28), 3) (mg 24 rfl)) (by decide) ?_
          refine X_eq (ls' := [some (.ref (wA w (m))), some (.int (nI (j + 1)))]) (st' := []) (h' := (cpS h (m + 1) 121 (m + 1) 94 (j + 1))) (g' := g) rfl rfl (cpS_s h (m + 1) 121 (m + 1) 94 (j) (cpS_o h (m + 1) 121 (m + 1) 94 (j) (m + 1) (by omega)).symm) rfl ?_
          exact ih13 (j + 1) (by omega) (by omega)
    refine X_eq (ls' := [some (.ref (wA w (m))), some (.int (nI (0)))]) (st' := []) (h' := (cpS h (m + 1) 121 (m + 1) 94 (0))) (g' := g) rfl rfl (cpS_0 h (m + 1) 121 (m + 1) 94).symm rfl ?_
    exact lp13 _ (0) (by omega) (Nat.le_refl _)
