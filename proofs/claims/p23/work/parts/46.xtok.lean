/-! PHASE 2, THE CLASS: TOKENs, exact -/
theorem isLe_t {x : Int32} (h : 97 ≤ x.toInt ∧ x.toInt ≤ 122) : isLe x = true := decide_eq_true h
theorem isLe_f {x : Int32} (h : ¬ (97 ≤ x.toInt ∧ x.toInt ≤ 122)) : isLe x = false := decide_eq_false h
theorem isFi_t {x : Int32} (h : 48 ≤ x.toInt ∧ x.toInt ≤ 57) : isFi x = true := decide_eq_true h
theorem isFi_f {x : Int32} (h : ¬ (48 ≤ x.toInt ∧ x.toInt ≤ 57)) : isFi x = false := decide_eq_false h
theorem isSp_t {x : Int32} (h : x = nI 32) : isSp x = true := decide_eq_true h
theorem isSp_f {x : Int32} (h : ¬ x = nI 32) : isSp x = false := decide_eq_false h
/-- the value of the figures from p up to e -/
def vN (B : Nat → Int32) (p e : Nat) : Int32 := if e - p = 0 then 0 else if e - p = 1 then tv1 (B p) else tv2 (tv1 (B p)) (B (p + 1))
theorem vN_0 (B : Nat → Int32) (p : Nat) : vN B p p = nI 0 := by
  unfold vN; rw [if_pos (by omega)]; rfl
theorem vN_k {B : Nat → Int32} {p e : Nat} (h : 2 ≤ e - p) : vN B p (e + 1) = vN B p e := by
  unfold vN; rw [if_neg (by omega), if_neg (by omega), if_neg (by omega), if_neg (by omega)]
theorem vN_s {B : Nat → Int32} {p e : Nat} {b : Int32} (h0 : p ≤ e) (h : e - p < 2) (hb : b = B e) : nI 10 * vN B p e + b - nI 48 = vN B p (e + 1) := by
  subst hb
  by_cases q : e = p
  · subst q
    unfold vN
    rw [if_pos (by omega), if_neg (by omega), if_pos (by omega)]
    rfl
  · have e1 : e = p + 1 := by omega
    subst e1
    unfold vN
    rw [if_neg (by omega), if_pos (by omega), if_neg (by omega), if_neg (by omega)]
    rfl
def cT (y : Nat) : Nat := if y = 0 then 4 else y - 1
theorem tk_0 {B : Nat → Int32} {n p s : Nat} (h : tS B n p = s) (h1 : n ≤ s) : tE B n p = s ∧ tT B n p = 0 := by
  unfold tT tE; rw [h, if_pos h1, if_pos h1]; exact ⟨rfl, rfl⟩
theorem tk_1 {B : Nat → Int32} {n p s : Nat} (h : tS B n p = s) (h1 : s < n) (h2 : isLe (B s) = true) : tE B n p = rn isLe B n s ∧ tT B n p = 1 := by
  exact ⟨by unfold tE; rw [h, if_neg (show ¬ n ≤ s by omega), if_pos h2], by unfold tT; rw [h, if_neg (show ¬ n ≤ s by omega), if_pos h2]⟩
theorem tk_2 {B : Nat → Int32} {n p s : Nat} (h : tS B n p = s) (h1 : s < n) (h2 : isLe (B s) = false) (h3 : isFi (B s) = true) : tE B n p = rn isFi B n s ∧ tT B n p = (if rn isFi B n s - s ≤ 2 then 2 else 4) ∧ tV B n p = vN B s (rn isFi B n s) := by
  have h2' : ¬ isLe (B s) = true := by rw [h2]; decide
  have e : tE B n p = rn isFi B n s := by unfold tE; rw [h, if_neg (by omega), if_neg h2', if_pos h3]
  have g : s < rn isFi B n s := by rw [rn_step h1 h3]; exact rn_ge
  refine ⟨e, ?_, ?_⟩
  · unfold tT; rw [h, e, if_neg (by omega), if_neg h2', if_pos h3]
  · unfold tV vN
    rw [h, e]
    by_cases q : rn isFi B n s - s ≤ 1
    · rw [if_pos q, if_neg (by omega), if_pos (by omega)]
    · rw [if_neg q, if_neg (by omega), if_neg (by omega)]
theorem tk_3 {B : Nat → Int32} {n p s : Nat} (h : tS B n p = s) (h1 : s < n) (h2 : isLe (B s) = false) (h3 : isFi (B s) = false) (h4 : B s = nI 59) : tE B n p = s + 1 ∧ tT B n p = 3 := by
  have h2' : ¬ isLe (B s) = true := by rw [h2]; decide
  have h3' : ¬ isFi (B s) = true := by rw [h3]; decide
  exact ⟨by unfold tE; rw [h, if_neg (show ¬ n ≤ s by omega), if_neg h2', if_neg h3'], by unfold tT; rw [h, if_neg (show ¬ n ≤ s by omega), if_neg h2', if_neg h3', if_pos (show B s = 59 from h4)]⟩
theorem tk_4 {B : Nat → Int32} {n p s : Nat} (h : tS B n p = s) (h1 : s < n) (h2 : isLe (B s) = false) (h3 : isFi (B s) = false) (h4 : ¬ B s = nI 59) : tE B n p = s + 1 ∧ tT B n p = 4 := by
  have h2' : ¬ isLe (B s) = true := by rw [h2]; decide
  have h3' : ¬ isFi (B s) = true := by rw [h3]; decide
  exact ⟨by unfold tE; rw [h, if_neg (show ¬ n ≤ s by omega), if_neg h2', if_neg h3'], by unfold tT; rw [h, if_neg (show ¬ n ≤ s by omega), if_neg h2', if_neg h3', if_neg (show ¬ B s = 59 from h4)]⟩
set_option maxHeartbeats 4000000 in
set_option maxRecDepth 100000 in
theorem cx_X5_advanceWord {l : Launch} {w : Kw} (hw : wOk w) {t n : Nat} (hX : shX w t) (hn : n ≤ 150) {B : Nat → Int32} {p : Nat} (hp : p ≤ n) (h : xI) (g : xJ) (hb : h t 2 = nI n) (hB : ∀ i, i < n → h (t + 1) i = B i) (ha : h t 3 = nI p) (he : h t 4 = nI p) : Ct l w yX5_advanceWord cX5_advanceWord 1 none 1 20 [.ref (wA w (t))] h g (pQv (fun h' => (∀ q i, (q ≠ t ∨ (i ≠ 3 ∧ i ≠ 5)) → h' q i = h q i) ∧ h' t 3 = nI (rn isLe B n p) ∧ h' t 5 = nI 0)) := by
  refine Ct_of (ls := [some (.ref (wA w (t)))]) (by decide) hw (Nat.le_of_ble_eq_true rfl) rfl (fun k hkl C => ?_)
  have C : Cx k w cX5_advanceWord RX5 1 none 1 20 := C
  have D := dtX5_advanceWord
  subst hkl
  have hX0 := hX
  obtain ⟨htn, hst, hs1, hN2⟩ := hX
  have hX := hX0
  have lp0 : ∀ (nn0 : Nat) (p1 : Nat) (hp0 : xI), (p ≤ p1) → (p1 ≤ n) → (hp0 t 3 = nI p1) → (∀ q i, (q ≠ t ∨ (i ≠ 3 ∧ i ≠ 5)) → hp0 q i = h q i) → (rn isLe B n p1 = rn isLe B n p) → n + 1 - p1 ≤ nn0 → X k w (Zq k w (pQv (fun h' => (∀ q i, (q ≠ t ∨ (i ≠ 3 ∧ i ≠ 5)) → h' q i = h q i) ∧ h' t 3 = nI (rn isLe B n p) ∧ h' t 5 = nI 0))) 0 [some (.ref (wA w (t)))] [] hp0 g := by
    intro nn0
    induction nn0 with
    | zero => intro p1 hp0 hc0_0 hc0_1 hc0_2 hc0_3 hc0_4 hz; exact absurd hz (by omega)
    | succ nn0 ih0 =>
      intro p1 hp0 hc0_0 hc0_1 hc0_2 hc0_3 hc0_4 hz0
      refine X_aload_n C 0 (D (0, .aload_n 0, 1) (mg 0 rfl)) rfl rfl ?_
      refine X_get (v := .int (hp0 (t) 3)) C (t) 3 (by omega) hst rfl rfl (by decide) inX5 fX5_22 rfl (D (1, .getfield 22, 3) (mg 1 rfl)) rfl ?_
      refine X_ti (y := nI (p1)) (hc0_2) ?_
      refine X_aload_n C 0 (D (4, .aload_n 0, 1) (mg 2 rfl)) rfl rfl ?_
      refine X_get (v := .int (hp0 (t) 2)) C (t) 2 (by omega) hst rfl rfl (by decide) inX5 fX5_39 rfl (D (5, .getfield 39, 3) (mg 3 rfl)) rfl ?_
      refine X_ti (y := nI (n)) (((hc0_3 _ _ (by omega)).trans hb)) ?_
      refine X_icmp_ge (tgt := 39) C (D (8, .if_icmp .ge 31, 3) (mg 4 rfl)) (by decide) (fun q1 => ?_) (fun q1 => ?_)
      · skip
        have q1 : (p1) ≥ (n) := by have z := (nI_leI (a := (n)) (b := (p1)) (by omega) (by omega)).mp q1; omega
        have hrx : rn isLe B n p = p1 := hc0_4.symm.trans (rn_stop (Or.inl (by omega)))
        refine X_aload_n C 0 (D (39, .aload_n 0, 1) (mg 19 rfl)) rfl rfl ?_
        refine X_iconst (v := nI (0)) C (D (40, .iconst 0, 1) (mg 20 rfl)) (by decide) ?_
        refine X_putI C (t) 5 tyX5 tyX5_ok nmX5 (by omega) hst rfl rfl (by decide) inX5 fX5_29 rfl rfl (by decide +kernel) (D (41, .putfield 29, 3) (mg 21 rfl)) ?_
        exact X_vret C (D (44, .return_, 1) (mg 22 rfl)) ⟨rfl, fun q i z => by rw [u2_ne _ _ _ _ (by omega)]; exact hc0_3 q i z, by rw [hrx]; exact (((u2_i _ _ _ _ (by omega))).trans hc0_2), ((u2_s _ _ _ _))⟩
      · skip
        have q1 : (p1) < (n) := by have z : ¬ ((n) ≤ (p1)) := fun u => q1 ((nI_leI (a := (n)) (b := (p1)) (by omega) (by omega)).mpr u); omega
        refine X_aload_n C 0 (D (11, .aload_n 0, 1) (mg 5 rfl)) rfl rfl ?_
        refine X_get (v := .ref (wA w (t + 1))) C (t) 0 (by omega) hst rfl rfl (by decide) inX5 fX5_9 rfl (D (12, .getfield 9, 3) (mg 6 rfl)) rfl ?_
        refine X_aload_n C 0 (D (15, .aload_n 0, 1) (mg 7 rfl)) rfl rfl ?_
        refine X_get (v := .int (hp0 (t) 3)) C (t) 3 (by omega) hst rfl rfl (by decide) inX5 fX5_22 rfl (D (16, .getfield 22, 3) (mg 8 rfl)) rfl ?_
        refine X_ti (y := nI (p1)) (hc0_2) ?_
        refine X_iald (v := hp0 (t + 1) (p1)) C (t + 1) (by omega) hs1 (vp_in_nI (by omega) (by omega)) (D (19, .iaload, 1) (mg 9 rfl)) (by rw [nI_clamp (by omega)]) ?_
        refine X_cS (As := [.int (hp0 (t + 1) (p1))]) (st := []) C (post := _) (ct_X5_isLetter hw (hp0 (t + 1) (p1)) hp0 g) kX5_42 (by decide) (by decide) rfl rfl (Nat.le_of_ble_eq_true rfl) (D (20, .invokestatic 42, 3) (mg 10 rfl)) rfl (fun v4 H2 G3 hv4 => ?_)
        obtain ⟨rfl, rfl, rfl⟩ := hv4
        show X k w _ 23 [some (.ref (wA w (t)))] [.int (if 97 ≤ (hp0 (t + 1) (p1)).toInt ∧ (hp0 (t + 1) (p1)).toInt ≤ 122 then 1 else 0)] hp0 g
        refine X_if_eq (tgt := 39) C (D (23, .ifCond .eq 16, 3) (mg 11 rfl)) (by decide) (fun q5 => ?_) (fun q5 => ?_)
        · skip
          have q5 : ¬ (97 ≤ (hp0 (t + 1) (p1)).toInt ∧ (hp0 (t + 1) (p1)).toInt ≤ 122) := bz0.mp q5
          have hrx : rn isLe B n p = p1 := hc0_4.symm.trans (rn_stop (Or.inr (isLe_f (by rw [← hB p1 (by omega), ← hc0_3 (t + 1) p1 (by omega)]; exact q5))))
          refine X_aload_n C 0 (D (39, .aload_n 0, 1) (mg 19 rfl)) rfl rfl ?_
          refine X_iconst (v := nI (0)) C (D (40, .iconst 0, 1) (mg 20 rfl)) (by decide) ?_
          refine X_putI C (t) 5 tyX5 tyX5_ok nmX5 (by omega) hst rfl rfl (by decide) inX5 fX5_29 rfl rfl (by decide +kernel) (D (41, .putfield 29, 3) (mg 21 rfl)) ?_
          exact X_vret C (D (44, .return_, 1) (mg 22 rfl)) ⟨rfl, fun q i z => by rw [u2_ne _ _ _ _ (by omega)]; exact hc0_3 q i z, by rw [hrx]; exact (((u2_i _ _ _ _ (by omega))).trans hc0_2), ((u2_s _ _ _ _))⟩
        · skip
          have q5 : (97 ≤ (hp0 (t + 1) (p1)).toInt ∧ (hp0 (t + 1) (p1)).toInt ≤ 122) := bz1.mp q5
          have hrn : rn isLe B n (p1 + 1) = rn isLe B n p := (rn_step (by omega) (isLe_t (by rw [← hB p1 (by omega), ← hc0_3 (t + 1) p1 (by omega)]; exact q5))).symm.trans hc0_4
          refine X_aload_n C 0 (D (26, .aload_n 0, 1) (mg 12 rfl)) rfl rfl ?_
          refine X_dup C (D (27, .dup, 1) (mg 13 rfl)) rfl ?_
          refine X_get (v := .int (hp0 (t) 3)) C (t) 3 (by omega) hst rfl rfl (by decide) inX5 fX5_22 rfl (D (28, .getfield 22, 3) (mg 14 rfl)) rfl ?_
          refine X_ti (y := nI (p1)) (hc0_2) ?_
          refine X_iconst (v := nI (1)) C (D (31, .iconst 1, 1) (mg 15 rfl)) (by decide) ?_
          refine X_iadd C (D (32, .iadd, 1) (mg 16 rfl)) ?_
          refine X_ti (y := nI (p1 + 1)) (nI_add (p1) (1)) ?_
          refine X_putI C (t) 3 tyX5 tyX5_ok nmX5 (by omega) hst rfl rfl (by decide) inX5 fX5_22 rfl rfl (by decide +kernel) (D (33, .putfield 22, 3) (mg 17 rfl)) ?_
          refine X_goto (tgt := 0) C (D (36, .goto (-36), 3) (mg 18 rfl)) (by decide) ?_
          refine X_eq (ls' := [some (.ref (wA w (t)))]) (st' := []) (h' := (u2 hp0 (t) 3 (nI (p1 + 1)))) (g' := g) rfl rfl rfl rfl ?_
          exact ih0 (p1 + 1) ((u2 hp0 (t) 3 (nI (p1 + 1)))) (by omega) (by omega) ((u2_s _ _ _ _)) (fun q i z => by rw [u2_ne _ _ _ _ (by omega)]; exact hc0_3 q i z) hrn (by omega)
  refine X_eq (ls' := [some (.ref (wA w (t)))]) (st' := []) (h' := h) (g' := g) rfl rfl rfl rfl ?_
  exact lp0 _ (p) (h) (by omega) (by omega) (ha) (fun q i z => by rfl) rfl (Nat.le_refl _)
set_option maxHeartbeats 4000000 in
set_option maxRecDepth 100000 in
theorem cx_X5_advanceNumber {l : Launch} {w : Kw} (hw : wOk w) {t n : Nat} (hX : shX w t) (hn : n ≤ 150) {B : Nat → Int32} {p : Nat} (hp : p ≤ n) (h : xI) (g : xJ) (hb : h t 2 = nI n) (hB : ∀ i, i < n → h (t + 1) i = B i) (ha : h t 3 = nI p) (he : h t 4 = nI p) : Ct l w yX5_advanceNumber cX5_advanceNumber 1 none 1 20 [.ref (wA w (t))] h g (pQv (fun h' => (∀ q i, (q ≠ t ∨ (i ≠ 3 ∧ i ≠ 5 ∧ i ≠ 6)) → h' q i = h q i) ∧ h' t 3 = nI (rn isFi B n p) ∧ h' t 5 = nI (if rn isFi B n p - p ≤ 2 then 1 else 3) ∧ h' t 6 = vN B p (rn isFi B n p))) := by
  refine Ct_of (ls := [some (.ref (wA w (t)))]) (by decide) hw (Nat.le_of_ble_eq_true rfl) rfl (fun k hkl C => ?_)
  have C : Cx k w cX5_advanceNumber RX5 1 none 1 20 := C
  have D := dtX5_advanceNumber
  subst hkl
  have hX0 := hX
  obtain ⟨htn, hst, hs1, hN2⟩ := hX
  have hX := hX0
  refine X_aload_n C 0 (D (0, .aload_n 0, 1) (mg 0 rfl)) rfl rfl ?_
  refine X_iconst (v := nI (0)) C (D (1, .iconst 0, 1) (mg 1 rfl)) (by decide) ?_
  refine X_putI C (t) 6 tyX5 tyX5_ok nmX5 (by omega) hst rfl rfl (by decide) inX5 fX5_55 rfl rfl (by decide +kernel) (D (2, .putfield 55, 3) (mg 2 rfl)) ?_
  have lp5 : ∀ (nn5 : Nat) (p1 : Nat) (hp5 : xI), (p ≤ p1) → (p1 ≤ n) → (hp5 t 3 = nI p1) → (∀ q i, (q ≠ t ∨ (i ≠ 3 ∧ i ≠ 5 ∧ i ≠ 6)) → hp5 q i = h q i) → (rn isFi B n p1 = rn isFi B n p) → (hp5 t 6 = vN B p p1) → n + 1 - p1 ≤ nn5 → X k w (Zq k w (pQv (fun h' => (∀ q i, (q ≠ t ∨ (i ≠ 3 ∧ i ≠ 5 ∧ i ≠ 6)) → h' q i = h q i) ∧ h' t 3 = nI (rn isFi B n p) ∧ h' t 5 = nI (if rn isFi B n p - p ≤ 2 then 1 else 3) ∧ h' t 6 = vN B p (rn isFi B n p)))) 5 [some (.ref (wA w (t)))] [] hp5 g := by
    intro nn5
    induction nn5 with
    | zero => intro p1 hp5 hc5_0 hc5_1 hc5_2 hc5_3 hc5_4 hc5_5 hz; exact absurd hz (by omega)
    | succ nn5 ih5 =>
      intro p1 hp5 hc5_0 hc5_1 hc5_2 hc5_3 hc5_4 hc5_5 hz5
      refine X_aload_n C 0 (D (5, .aload_n 0, 1) (mg 3 rfl)) rfl rfl ?_
      refine X_get (v := .int (hp5 (t) 3)) C (t) 3 (by omega) hst rfl rfl (by decide) inX5 fX5_22 rfl (D (6, .getfield 22, 3) (mg 4 rfl)) rfl ?_
      refine X_ti (y := nI (p1)) (hc5_2) ?_
      refine X_aload_n C 0 (D (9, .aload_n 0, 1) (mg 5 rfl)) rfl rfl ?_
      refine X_get (v := .int (hp5 (t) 2)) C (t) 2 (by omega) hst rfl rfl (by decide) inX5 fX5_39 rfl (D (10, .getfield 39, 3) (mg 6 rfl)) rfl ?_
      refine X_ti (y := nI (n)) (((hc5_3 _ _ (by omega)).trans hb)) ?_
      refine X_icmp_ge (tgt := 81) C (D (13, .if_icmp .ge 68, 3) (mg 7 rfl)) (by decide) (fun q1 => ?_) (fun q1 => ?_)
      · skip
        have q1 : (p1) ≥ (n) := by have z := (nI_leI (a := (n)) (b := (p1)) (by omega) (by omega)).mp q1; omega
        have hrx : rn isFi B n p = p1 := hc5_4.symm.trans (rn_stop (Or.inl (by omega)))
        refine X_aload_n C 0 (D (81, .aload_n 0, 1) (mg 43 rfl)) rfl rfl ?_
        refine X_aload_n C 0 (D (82, .aload_n 0, 1) (mg 44 rfl)) rfl rfl ?_
        refine X_get (v := .int (hp5 (t) 3)) C (t) 3 (by omega) hst rfl rfl (by decide) inX5 fX5_22 rfl (D (83, .getfield 22, 3) (mg 45 rfl)) rfl ?_
        refine X_ti (y := nI (p1)) (hc5_2) ?_
        refine X_aload_n C 0 (D (86, .aload_n 0, 1) (mg 46 rfl)) rfl rfl ?_
        refine X_get (v := .int (hp5 (t) 4)) C (t) 4 (by omega) hst rfl rfl (by decide) inX5 fX5_36 rfl (D (87, .getfield 36, 3) (mg 47 rfl)) rfl ?_
        refine X_ti (y := nI (p)) (((hc5_3 _ _ (by omega)).trans he)) ?_
        refine X_isub C (D (90, .isub, 1) (mg 48 rfl)) ?_
        refine X_ti (y := nI (p1 - p)) (pk_sub (by omega)) ?_
        refine X_iconst (v := nI (2)) C (D (91, .iconst 2, 1) (mg 49 rfl)) (by decide) ?_
        refine X_icmp_gt (tgt := 99) C (D (92, .if_icmp .gt 7, 3) (mg 50 rfl)) (by decide) (fun q2 => ?_) (fun q2 => ?_)
        · skip
          have q2 : (p1 - p) > (2) := by have z := (nI_ltI (a := (2)) (b := (p1 - p)) (by omega) (by omega)).mp q2; omega
          refine X_iconst (v := nI (3)) C (D (99, .iconst 3, 1) (mg 53 rfl)) (by decide) ?_
          refine X_putI C (t) 5 tyX5 tyX5_ok nmX5 (by omega) hst rfl rfl (by decide) inX5 fX5_29 rfl rfl (by decide +kernel) (D (100, .putfield 29, 3) (mg 54 rfl)) ?_
          exact X_vret C (D (103, .return_, 1) (mg 55 rfl)) ⟨rfl, fun q i z => by rw [u2_ne _ _ _ _ (by omega)]; exact hc5_3 q i z, by rw [hrx]; exact (((u2_i _ _ _ _ (by omega))).trans hc5_2), by rw [if_neg (show ¬ rn isFi B n p - p ≤ 2 by omega)]; exact ((u2_s _ _ _ _)), by rw [hrx]; exact (((u2_i _ _ _ _ (by omega))).trans hc5_5)⟩
        · skip
          have q2 : (p1 - p) ≤ (2) := by have z : ¬ ((2) < (p1 - p)) := fun u => q2 ((nI_ltI (a := (2)) (b := (p1 - p)) (by omega) (by omega)).mpr u); omega
          refine X_iconst (v := nI (1)) C (D (95, .iconst 1, 1) (mg 51 rfl)) (by decide) ?_
          refine X_goto (tgt := 100) C (D (96, .goto 4, 3) (mg 52 rfl)) (by decide) ?_
          refine X_putI C (t) 5 tyX5 tyX5_ok nmX5 (by omega) hst rfl rfl (by decide) inX5 fX5_29 rfl rfl (by decide +kernel) (D (100, .putfield 29, 3) (mg 54 rfl)) ?_
          exact X_vret C (D (103, .return_, 1) (mg 55 rfl)) ⟨rfl, fun q i z => by rw [u2_ne _ _ _ _ (by omega)]; exact hc5_3 q i z, by rw [hrx]; exact (((u2_i _ _ _ _ (by omega))).trans hc5_2), by rw [if_pos (show rn isFi B n p - p ≤ 2 by omega)]; exact ((u2_s _ _ _ _)), by rw [hrx]; exact (((u2_i _ _ _ _ (by omega))).trans hc5_5)⟩
      · skip
        have q1 : (p1) < (n) := by have z : ¬ ((n) ≤ (p1)) := fun u => q1 ((nI_leI (a := (n)) (b := (p1)) (by omega) (by omega)).mpr u); omega
        refine X_aload_n C 0 (D (16, .aload_n 0, 1) (mg 8 rfl)) rfl rfl ?_
        refine X_get (v := .ref (wA w (t + 1))) C (t) 0 (by omega) hst rfl rfl (by decide) inX5 fX5_9 rfl (D (17, .getfield 9, 3) (mg 9 rfl)) rfl ?_
        refine X_aload_n C 0 (D (20, .aload_n 0, 1) (mg 10 rfl)) rfl rfl ?_
        refine X_get (v := .int (hp5 (t) 3)) C (t) 3 (by omega) hst rfl rfl (by decide) inX5 fX5_22 rfl (D (21, .getfield 22, 3) (mg 11 rfl)) rfl ?_
        refine X_ti (y := nI (p1)) (hc5_2) ?_
        refine X_iald (v := hp5 (t + 1) (p1)) C (t + 1) (by omega) hs1 (vp_in_nI (by omega) (by omega)) (D (24, .iaload, 1) (mg 12 rfl)) (by rw [nI_clamp (by omega)]) ?_
        refine X_cS (As := [.int (hp5 (t + 1) (p1))]) (st := []) C (post := _) (ct_X5_isFigure hw (hp5 (t + 1) (p1)) hp5 g) kX5_49 (by decide) (by decide) rfl rfl (Nat.le_of_ble_eq_true rfl) (D (25, .invokestatic 49, 3) (mg 13 rfl)) rfl (fun v5 H3 G4 hv5 => ?_)
        obtain ⟨rfl, rfl, rfl⟩ := hv5
        show X k w _ 28 [some (.ref (wA w (t)))] [.int (if 48 ≤ (hp5 (t + 1) (p1)).toInt ∧ (hp5 (t + 1) (p1)).toInt ≤ 57 then 1 else 0)] hp5 g
        refine X_if_eq (tgt := 81) C (D (28, .ifCond .eq 53, 3) (mg 14 rfl)) (by decide) (fun q6 => ?_) (fun q6 => ?_)
        · skip
          have q6 : ¬ (48 ≤ (hp5 (t + 1) (p1)).toInt ∧ (hp5 (t + 1) (p1)).toInt ≤ 57) := bz0.mp q6
          have hrx : rn isFi B n p = p1 := hc5_4.symm.trans (rn_stop (Or.inr (isFi_f (by rw [← hB p1 (by omega), ← hc5_3 (t + 1) p1 (by omega)]; exact q6))))
          refine X_aload_n C 0 (D (81, .aload_n 0, 1) (mg 43 rfl)) rfl rfl ?_
          refine X_aload_n C 0 (D (82, .aload_n 0, 1) (mg 44 rfl)) rfl rfl ?_
          refine X_get (v := .int (hp5 (t) 3)) C (t) 3 (by omega) hst rfl rfl (by decide) inX5 fX5_22 rfl (D (83, .getfield 22, 3) (mg 45 rfl)) rfl ?_
          refine X_ti (y := nI (p1)) (hc5_2) ?_
          refine X_aload_n C 0 (D (86, .aload_n 0, 1) (mg 46 rfl)) rfl rfl ?_
          refine X_get (v := .int (hp5 (t) 4)) C (t) 4 (by omega) hst rfl rfl (by decide) inX5 fX5_36 rfl (D (87, .getfield 36, 3) (mg 47 rfl)) rfl ?_
          refine X_ti (y := nI (p)) (((hc5_3 _ _ (by omega)).trans he)) ?_
          refine X_isub C (D (90, .isub, 1) (mg 48 rfl)) ?_
          refine X_ti (y := nI (p1 - p)) (pk_sub (by omega)) ?_
          refine X_iconst (v := nI (2)) C (D (91, .iconst 2, 1) (mg 49 rfl)) (by decide) ?_
          refine X_icmp_gt (tgt := 99) C (D (92, .if_icmp .gt 7, 3) (mg 50 rfl)) (by decide) (fun q7 => ?_) (fun q7 => ?_)
          · skip
            have q7 : (p1 - p) > (2) := by have z := (nI_ltI (a := (2)) (b := (p1 - p)) (by omega) (by omega)).mp q7; omega
            refine X_iconst (v := nI (3)) C (D (99, .iconst 3, 1) (mg 53 rfl)) (by decide) ?_
            refine X_putI C (t) 5 tyX5 tyX5_ok nmX5 (by omega) hst rfl rfl (by decide) inX5 fX5_29 rfl rfl (by decide +kernel) (D (100, .putfield 29, 3) (mg 54 rfl)) ?_
            exact X_vret C (D (103, .return_, 1) (mg 55 rfl)) ⟨rfl, fun q i z => by rw [u2_ne _ _ _ _ (by omega)]; exact hc5_3 q i z, by rw [hrx]; exact (((u2_i _ _ _ _ (by omega))).trans hc5_2), by rw [if_neg (show ¬ rn isFi B n p - p ≤ 2 by omega)]; exact ((u2_s _ _ _ _)), by rw [hrx]; exact (((u2_i _ _ _ _ (by omega))).trans hc5_5)⟩
          · skip
            have q7 : (p1 - p) ≤ (2) := by have z : ¬ ((2) < (p1 - p)) := fun u => q7 ((nI_ltI (a := (2)) (b := (p1 - p)) (by omega) (by omega)).mpr u); omega
            refine X_iconst (v := nI (1)) C (D (95, .iconst 1, 1) (mg 51 rfl)) (by decide) ?_
            refine X_goto (tgt := 100) C (D (96, .goto 4, 3) (mg 52 rfl)) (by decide) ?_
            refine X_putI C (t) 5 tyX5 tyX5_ok nmX5 (by omega) hst rfl rfl (by decide) inX5 fX5_29 rfl rfl (by decide +kernel) (D (100, .putfield 29, 3) (mg 54 rfl)) ?_
            exact X_vret C (D (103, .return_, 1) (mg 55 rfl)) ⟨rfl, fun q i z => by rw [u2_ne _ _ _ _ (by omega)]; exact hc5_3 q i z, by rw [hrx]; exact (((u2_i _ _ _ _ (by omega))).trans hc5_2), by rw [if_pos (show rn isFi B n p - p ≤ 2 by omega)]; exact ((u2_s _ _ _ _)), by rw [hrx]; exact (((u2_i _ _ _ _ (by omega))).trans hc5_5)⟩
        · skip
          have q6 : (48 ≤ (hp5 (t + 1) (p1)).toInt ∧ (hp5 (t + 1) (p1)).toInt ≤ 57) := bz1.mp q6
          have hrn : rn isFi B n (p1 + 1) = rn isFi B n p := (rn_step (by omega) (isFi_t (by rw [← hB p1 (by omega), ← hc5_3 (t + 1) p1 (by omega)]; exact q6))).symm.trans hc5_4
          refine X_aload_n C 0 (D (31, .aload_n 0, 1) (mg 15 rfl)) rfl rfl ?_
          refine X_get (v := .int (hp5 (t) 3)) C (t) 3 (by omega) hst rfl rfl (by decide) inX5 fX5_22 rfl (D (32, .getfield 22, 3) (mg 16 rfl)) rfl ?_
          refine X_ti (y := nI (p1)) (hc5_2) ?_
          refine X_aload_n C 0 (D (35, .aload_n 0, 1) (mg 17 rfl)) rfl rfl ?_
          refine X_get (v := .int (hp5 (t) 4)) C (t) 4 (by omega) hst rfl rfl (by decide) inX5 fX5_36 rfl (D (36, .getfield 36, 3) (mg 18 rfl)) rfl ?_
          refine X_ti (y := nI (p)) (((hc5_3 _ _ (by omega)).trans he)) ?_
          refine X_isub C (D (39, .isub, 1) (mg 19 rfl)) ?_
          refine X_ti (y := nI (p1 - p)) (pk_sub (by omega)) ?_
          refine X_iconst (v := nI (2)) C (D (40, .iconst 2, 1) (mg 20 rfl)) (by decide) ?_
          refine X_icmp_ge (tgt := 68) C (D (41, .if_icmp .ge 27, 3) (mg 21 rfl)) (by decide) (fun q8 => ?_) (fun q8 => ?_)
          · skip
            have q8 : (p1 - p) ≥ (2) := by have z := (nI_leI (a := (2)) (b := (p1 - p)) (by omega) (by omega)).mp q8; omega
            refine X_aload_n C 0 (D (68, .aload_n 0, 1) (mg 36 rfl)) rfl rfl ?_
            refine X_dup C (D (69, .dup, 1) (mg 37 rfl)) rfl ?_
            refine X_get (v := .int (hp5 (t) 3)) C (t) 3 (by omega) hst rfl rfl (by decide) inX5 fX5_22 rfl (D (70, .getfield 22, 3) (mg 38 rfl)) rfl ?_
            refine X_ti (y := nI (p1)) (hc5_2) ?_
            refine X_iconst (v := nI (1)) C (D (73, .iconst 1, 1) (mg 39 rfl)) (by decide) ?_
            refine X_iadd C (D (74, .iadd, 1) (mg 40 rfl)) ?_
            refine X_ti (y := nI (p1 + 1)) (nI_add (p1) (1)) ?_
            refine X_putI C (t) 3 tyX5 tyX5_ok nmX5 (by omega) hst rfl rfl (by decide) inX5 fX5_22 rfl rfl (by decide +kernel) (D (75, .putfield 22, 3) (mg 41 rfl)) ?_
            refine X_goto (tgt := 5) C (D (78, .goto (-73), 3) (mg 42 rfl)) (by decide) ?_
            refine X_eq (ls' := [some (.ref (wA w (t)))]) (st' := []) (h' := (u2 hp5 (t) 3 (nI (p1 + 1)))) (g' := g) rfl rfl rfl rfl ?_
            exact ih5 (p1 + 1) ((u2 hp5 (t) 3 (nI (p1 + 1)))) (by omega) (by omega) ((u2_s _ _ _ _)) (fun q i z => by rw [u2_ne _ _ _ _ (by omega)]; exact hc5_3 q i z) hrn ((((u2_i _ _ _ _ (by omega))).trans hc5_5).trans (vN_k (by omega)).symm) (by omega)
          · skip
            have q8 : (p1 - p) < (2) := by have z : ¬ ((2) ≤ (p1 - p)) := fun u => q8 ((nI_leI (a := (2)) (b := (p1 - p)) (by omega) (by omega)).mpr u); omega
            refine X_aload_n C 0 (D (44, .aload_n 0, 1) (mg 22 rfl)) rfl rfl ?_
            refine X_bipush (v := nI (10)) C (D (45, .bipush 10, 2) (mg 23 rfl)) (by decide) ?_
            refine X_aload_n C 0 (D (47, .aload_n 0, 1) (mg 24 rfl)) rfl rfl ?_
            refine X_get (v := .int (hp5 (t) 6)) C (t) 6 (by omega) hst rfl rfl (by decide) inX5 fX5_55 rfl (D (48, .getfield 55, 3) (mg 25 rfl)) rfl ?_
            refine X_ti (y := vN B p p1) (hc5_5) ?_
            refine X_imul C (D (51, .imul, 1) (mg 26 rfl)) ?_
            refine X_aload_n C 0 (D (52, .aload_n 0, 1) (mg 27 rfl)) rfl rfl ?_
            refine X_get (v := .ref (wA w (t + 1))) C (t) 0 (by omega) hst rfl rfl (by decide) inX5 fX5_9 rfl (D (53, .getfield 9, 3) (mg 28 rfl)) rfl ?_
            refine X_aload_n C 0 (D (56, .aload_n 0, 1) (mg 29 rfl)) rfl rfl ?_
            refine X_get (v := .int (hp5 (t) 3)) C (t) 3 (by omega) hst rfl rfl (by decide) inX5 fX5_22 rfl (D (57, .getfield 22, 3) (mg 30 rfl)) rfl ?_
            refine X_ti (y := nI (p1)) (hc5_2) ?_
            refine X_iald (v := hp5 (t + 1) (p1)) C (t + 1) (by omega) hs1 (vp_in_nI (by omega) (by omega)) (D (60, .iaload, 1) (mg 31 rfl)) (by rw [nI_clamp (by omega)]) ?_
            refine X_iadd C (D (61, .iadd, 1) (mg 32 rfl)) ?_
            refine X_bipush (v := nI (48)) C (D (62, .bipush 48, 2) (mg 33 rfl)) (by decide) ?_
            refine X_isub C (D (64, .isub, 1) (mg 34 rfl)) ?_
            refine X_putI C (t) 6 tyX5 tyX5_ok nmX5 (by omega) hst rfl rfl (by decide) inX5 fX5_55 rfl rfl (by decide +kernel) (D (65, .putfield 55, 3) (mg 35 rfl)) ?_
            refine X_aload_n C 0 (D (68, .aload_n 0, 1) (mg 36 rfl)) rfl rfl ?_
            refine X_dup C (D (69, .dup, 1) (mg 37 rfl)) rfl ?_
            refine X_get (v := .int ((u2 hp5 (t) 6 ((((nI (10)) * (vN B p p1)) + (hp5 (t + 1) (p1))) - (nI (48)))) (t) 3)) C (t) 3 (by omega) hst rfl rfl (by decide) inX5 fX5_22 rfl (D (70, .getfield 22, 3) (mg 38 rfl)) rfl ?_
            refine X_ti (y := nI (p1)) (((u2_i _ _ _ _ (by omega))).trans hc5_2) ?_
            refine X_iconst (v := nI (1)) C (D (73, .iconst 1, 1) (mg 39 rfl)) (by decide) ?_
            refine X_iadd C (D (74, .iadd, 1) (mg 40 rfl)) ?_
            refine X_ti (y := nI (p1 + 1)) (nI_add (p1) (1)) ?_
            refine X_putI C (t) 3 tyX5 tyX5_ok nmX5 (by omega) hst rfl rfl (by decide) inX5 fX5_22 rfl rfl (by decide +kernel) (D (75, .putfield 22, 3) (mg 41 rfl)) ?_
            refine X_goto (tgt := 5) C (D (78, .goto (-73), 3) (mg 42 rfl)) (by decide) ?_
            refine X_eq (ls' := [some (.ref (wA w (t)))]) (st' := []) (h' := (u2 (u2 hp5 (t) 6 ((((nI (10)) * (vN B p p1)) + (hp5 (t + 1) (p1))) - (nI (48)))) (t) 3 (nI (p1 + 1)))) (g' := g) rfl rfl rfl rfl ?_
            exact ih5 (p1 + 1) ((u2 (u2 hp5 (t) 6 ((((nI (10)) * (vN B p p1)) + (hp5 (t + 1) (p1))) - (nI (48)))) (t) 3 (nI (p1 + 1)))) (by omega) (by omega) ((u2_s _ _ _ _)) (fun q i z => by rw [u2_ne _ _ _ _ (by omega), u2_ne _ _ _ _ (by omega)]; exact hc5_3 q i z) hrn ((((u2_i _ _ _ _ (by omega))).trans (u2_s _ _ _ _)).trans (vN_s (by omega) (by omega) ((hc5_3 (t + 1) p1 (by omega)).trans (hB p1 (by omega))))) (by omega)
  refine X_eq (ls' := [some (.ref (wA w (t)))]) (st' := []) (h' := (u2 h (t) 6 (nI (0)))) (g' := g) rfl rfl rfl rfl ?_
  exact lp5 _ (p) ((u2 h (t) 6 (nI (0)))) (by omega) (by omega) (((u2_i _ _ _ _ (by omega))).trans ha) (fun q i z => by rw [u2_ne _ _ _ _ (by omega)]) rfl (((u2_s _ _ _ _)).trans (vN_0 _ _).symm) (Nat.le_refl _)
set_option maxHeartbeats 4000000 in
set_option maxRecDepth 100000 in
theorem cx_X5_advance {l : Launch} {w : Kw} (hw : wOk w) {t n : Nat} (hX : shX w t) (hn : n ≤ 150) {B : Nat → Int32} {p : Nat} (hp : p ≤ n) (h : xI) (g : xJ) (hb : h t 2 = nI n) (hB : ∀ i, i < n → h (t + 1) i = B i) (ha : h t 3 = nI p) : Ct l w yX5_advance cX5_advance 1 none 2 40 [.ref (wA w (t))] h g (pQv (fun h' => (∀ q i, (q ≠ t ∨ i < 3) → h' q i = h q i) ∧ h' t 3 = nI (tE B n (p)) ∧ h' t 4 = nI (tS B n (p)) ∧ h' t 5 = nI (cT (tT B n (p))) ∧ (tT B n (p) = 2 → h' t 6 = tV B n (p)))) := by
  refine Ct_of (ls := [some (.ref (wA w (t)))]) (by decide) hw (Nat.le_of_ble_eq_true rfl) rfl (fun k hkl C => ?_)
  have C : Cx k w cX5_advance RX5 1 none 2 40 := C
  have D := dtX5_advance
  subst hkl
  have hX0 := hX
  obtain ⟨htn, hst, hs1, hN2⟩ := hX
  have hX := hX0
  have lp0 : ∀ (nn0 : Nat) (p1 : Nat) (hp0 : xI), (p1 ≤ n) → (hp0 t 3 = nI p1) → (∀ q i, (q ≠ t ∨ i < 3) → hp0 q i = h q i) → (rn isSp B n p1 = rn isSp B n p) → n + 1 - p1 ≤ nn0 → X k w (Zq k w (pQv (fun h' => (∀ q i, (q ≠ t ∨ i < 3) → h' q i = h q i) ∧ h' t 3 = nI (tE B n (p)) ∧ h' t 4 = nI (tS B n (p)) ∧ h' t 5 = nI (cT (tT B n (p))) ∧ (tT B n (p) = 2 → h' t 6 = tV B n (p))))) 0 [some (.ref (wA w (t)))] [] hp0 g := by
    intro nn0
    induction nn0 with
    | zero => intro p1 hp0 hc0_0 hc0_1 hc0_2 hc0_3 hz; exact absurd hz (by omega)
    | succ nn0 ih0 =>
      intro p1 hp0 hc0_0 hc0_1 hc0_2 hc0_3 hz0
      refine X_aload_n C 0 (D (0, .aload_n 0, 1) (mg 0 rfl)) rfl rfl ?_
      refine X_get (v := .int (hp0 (t) 3)) C (t) 3 (by omega) hst rfl rfl (by decide) inX5 fX5_22 rfl (D (1, .getfield 22, 3) (mg 1 rfl)) rfl ?_
      refine X_ti (y := nI (p1)) (hc0_1) ?_
      refine X_aload_n C 0 (D (4, .aload_n 0, 1) (mg 2 rfl)) rfl rfl ?_
      refine X_get (v := .int (hp0 (t) 2)) C (t) 2 (by omega) hst rfl rfl (by decide) inX5 fX5_39 rfl (D (5, .getfield 39, 3) (mg 3 rfl)) rfl ?_
      refine X_ti (y := nI (n)) (((hc0_2 _ _ (by omega)).trans hb)) ?_
      refine X_icmp_ge (tgt := 38) C (D (8, .if_icmp .ge 30, 3) (mg 4 rfl)) (by decide) (fun q1 => ?_) (fun q1 => ?_)
      · skip
        have q1 : (p1) ≥ (n) := by have z := (nI_leI (a := (n)) (b := (p1)) (by omega) (by omega)).mp q1; omega
        have hrx : tS B n p = p1 := hc0_3.symm.trans (rn_stop (Or.inl (by omega)))
        refine X_aload_n C 0 (D (38, .aload_n 0, 1) (mg 19 rfl)) rfl rfl ?_
        refine X_aload_n C 0 (D (39, .aload_n 0, 1) (mg 20 rfl)) rfl rfl ?_
        refine X_get (v := .int (hp0 (t) 3)) C (t) 3 (by omega) hst rfl rfl (by decide) inX5 fX5_22 rfl (D (40, .getfield 22, 3) (mg 21 rfl)) rfl ?_
        refine X_ti (y := nI (p1)) (hc0_1) ?_
        refine X_putI C (t) 4 tyX5 tyX5_ok nmX5 (by omega) hst rfl rfl (by decide) inX5 fX5_36 rfl rfl (by decide +kernel) (D (43, .putfield 36, 3) (mg 22 rfl)) ?_
        refine X_aload_n C 0 (D (46, .aload_n 0, 1) (mg 23 rfl)) rfl rfl ?_
        refine X_get (v := .int ((u2 hp0 (t) 4 (nI (p1))) (t) 3)) C (t) 3 (by omega) hst rfl rfl (by decide) inX5 fX5_22 rfl (D (47, .getfield 22, 3) (mg 24 rfl)) rfl ?_
        refine X_ti (y := nI (p1)) (((u2_i _ _ _ _ (by omega))).trans hc0_1) ?_
        refine X_aload_n C 0 (D (50, .aload_n 0, 1) (mg 25 rfl)) rfl rfl ?_
        refine X_get (v := .int ((u2 hp0 (t) 4 (nI (p1))) (t) 2)) C (t) 2 (by omega) hst rfl rfl (by decide) inX5 fX5_39 rfl (D (51, .getfield 39, 3) (mg 26 rfl)) rfl ?_
        refine X_ti (y := nI (n)) (((u2_i _ _ _ _ (by omega))).trans ((hc0_2 _ _ (by omega)).trans hb)) ?_
        refine X_icmp_lt (tgt := 65) C (D (54, .if_icmp .lt 11, 3) (mg 27 rfl)) (by decide) (fun q2 => ?_) (fun q2 => ?_)
        · skip
          have q2 : (p1) < (n) := by have z := (nI_ltI (a := (p1)) (b := (n)) (by omega) (by omega)).mp q2; omega
          have hby : (u2 hp0 (t) 4 (nI (p1))) (t + 1) (p1) = B p1 := (u2_p _ _ _ _ (by omega)).trans ((hc0_2 _ _ (by omega)).trans (hB p1 (by omega)))
          refine X_aload_n C 0 (D (65, .aload_n 0, 1) (mg 32 rfl)) rfl rfl ?_
          refine X_get (v := .ref (wA w (t + 1))) C (t) 0 (by omega) hst rfl rfl (by decide) inX5 fX5_9 rfl (D (66, .getfield 9, 3) (mg 33 rfl)) rfl ?_
          refine X_aload_n C 0 (D (69, .aload_n 0, 1) (mg 34 rfl)) rfl rfl ?_
          refine X_get (v := .int ((u2 hp0 (t) 4 (nI (p1))) (t) 3)) C (t) 3 (by omega) hst rfl rfl (by decide) inX5 fX5_22 rfl (D (70, .getfield 22, 3) (mg 35 rfl)) rfl ?_
          refine X_ti (y := nI (p1)) (((u2_i _ _ _ _ (by omega))).trans hc0_1) ?_
          refine X_iald (v := (u2 hp0 (t) 4 (nI (p1))) (t + 1) (p1)) C (t + 1) (by omega) hs1 (vp_in_nI (by omega) (by omega)) (D (73, .iaload, 1) (mg 36 rfl)) (by rw [nI_clamp (by omega)]) ?_
          refine X_cS (As := [.int ((u2 hp0 (t) 4 (nI (p1))) (t + 1) (p1))]) (st := []) C (post := _) (ct_X5_isLetter hw ((u2 hp0 (t) 4 (nI (p1))) (t + 1) (p1)) (u2 hp0 (t) 4 (nI (p1))) g) kX5_42 (by decide) (by decide) rfl rfl (Nat.le_of_ble_eq_true rfl) (D (74, .invokestatic 42, 3) (mg 37 rfl)) rfl (fun v5 H3 G4 hv5 => ?_)
          obtain ⟨rfl, rfl, rfl⟩ := hv5
          show X k w _ 77 [some (.ref (wA w (t)))] [.int (if 97 ≤ ((u2 hp0 (t) 4 (nI (p1))) (t + 1) (p1)).toInt ∧ ((u2 hp0 (t) 4 (nI (p1))) (t + 1) (p1)).toInt ≤ 122 then 1 else 0)] (u2 hp0 (t) 4 (nI (p1))) g
          refine X_if_eq (tgt := 87) C (D (77, .ifCond .eq 10, 3) (mg 38 rfl)) (by decide) (fun q6 => ?_) (fun q6 => ?_)
          · skip
            have q6 : ¬ (97 ≤ ((u2 hp0 (t) 4 (nI (p1))) (t + 1) (p1)).toInt ∧ ((u2 hp0 (t) 4 (nI (p1))) (t + 1) (p1)).toInt ≤ 122) := bz0.mp q6
            have hLe := isLe_f (x := B p1) (by rw [← hby]; exact q6)
            refine X_aload_n C 0 (D (87, .aload_n 0, 1) (mg 42 rfl)) rfl rfl ?_
            refine X_get (v := .ref (wA w (t + 1))) C (t) 0 (by omega) hst rfl rfl (by decide) inX5 fX5_9 rfl (D (88, .getfield 9, 3) (mg 43 rfl)) rfl ?_
            refine X_aload_n C 0 (D (91, .aload_n 0, 1) (mg 44 rfl)) rfl rfl ?_
            refine X_get (v := .int ((u2 hp0 (t) 4 (nI (p1))) (t) 3)) C (t) 3 (by omega) hst rfl rfl (by decide) inX5 fX5_22 rfl (D (92, .getfield 22, 3) (mg 45 rfl)) rfl ?_
            refine X_ti (y := nI (p1)) (((u2_i _ _ _ _ (by omega))).trans hc0_1) ?_
            refine X_iald (v := (u2 hp0 (t) 4 (nI (p1))) (t + 1) (p1)) C (t + 1) (by omega) hs1 (vp_in_nI (by omega) (by omega)) (D (95, .iaload, 1) (mg 46 rfl)) (by rw [nI_clamp (by omega)]) ?_
            refine X_cS (As := [.int ((u2 hp0 (t) 4 (nI (p1))) (t + 1) (p1))]) (st := []) C (post := _) (ct_X5_isFigure hw ((u2 hp0 (t) 4 (nI (p1))) (t + 1) (p1)) (u2 hp0 (t) 4 (nI (p1))) g) kX5_49 (by decide) (by decide) rfl rfl (Nat.le_of_ble_eq_true rfl) (D (96, .invokestatic 49, 3) (mg 47 rfl)) rfl (fun v9 H7 G8 hv9 => ?_)
            obtain ⟨rfl, rfl, rfl⟩ := hv9
            show X k w _ 99 [some (.ref (wA w (t)))] [.int (if 48 ≤ ((u2 hp0 (t) 4 (nI (p1))) (t + 1) (p1)).toInt ∧ ((u2 hp0 (t) 4 (nI (p1))) (t + 1) (p1)).toInt ≤ 57 then 1 else 0)] (u2 hp0 (t) 4 (nI (p1))) g
            refine X_if_eq (tgt := 109) C (D (99, .ifCond .eq 10, 3) (mg 48 rfl)) (by decide) (fun q10 => ?_) (fun q10 => ?_)
            · skip
              have q10 : ¬ (48 ≤ ((u2 hp0 (t) 4 (nI (p1))) (t + 1) (p1)).toInt ∧ ((u2 hp0 (t) 4 (nI (p1))) (t + 1) (p1)).toInt ≤ 57) := bz0.mp q10
              have hFi := isFi_f (x := B p1) (by rw [← hby]; exact q10)
              refine X_aload_n C 0 (D (109, .aload_n 0, 1) (mg 52 rfl)) rfl rfl ?_
              refine X_aload_n C 0 (D (110, .aload_n 0, 1) (mg 53 rfl)) rfl rfl ?_
              refine X_get (v := .ref (wA w (t + 1))) C (t) 0 (by omega) hst rfl rfl (by decide) inX5 fX5_9 rfl (D (111, .getfield 9, 3) (mg 54 rfl)) rfl ?_
              refine X_aload_n C 0 (D (114, .aload_n 0, 1) (mg 55 rfl)) rfl rfl ?_
              refine X_get (v := .int ((u2 hp0 (t) 4 (nI (p1))) (t) 3)) C (t) 3 (by omega) hst rfl rfl (by decide) inX5 fX5_22 rfl (D (115, .getfield 22, 3) (mg 56 rfl)) rfl ?_
              refine X_ti (y := nI (p1)) (((u2_i _ _ _ _ (by omega))).trans hc0_1) ?_
              refine X_iald (v := (u2 hp0 (t) 4 (nI (p1))) (t + 1) (p1)) C (t + 1) (by omega) hs1 (vp_in_nI (by omega) (by omega)) (D (118, .iaload, 1) (mg 57 rfl)) (by rw [nI_clamp (by omega)]) ?_
              refine X_bipush (v := nI (59)) C (D (119, .bipush 59, 2) (mg 58 rfl)) (by decide) ?_
              refine X_icmp_ne (tgt := 128) C (D (121, .if_icmp .ne 7, 3) (mg 59 rfl)) (by decide) (fun q11 => ?_) (fun q11 => ?_)
              · skip
                have hfin := tk_4 hrx (by omega) hLe hFi (by rw [← hby]; exact q11)
                refine X_iconst (v := nI (3)) C (D (128, .iconst 3, 1) (mg 62 rfl)) (by decide) ?_
                refine X_putI C (t) 5 tyX5 tyX5_ok nmX5 (by omega) hst rfl rfl (by decide) inX5 fX5_29 rfl rfl (by decide +kernel) (D (129, .putfield 29, 3) (mg 63 rfl)) ?_
                refine X_aload_n C 0 (D (132, .aload_n 0, 1) (mg 64 rfl)) rfl rfl ?_
                refine X_dup C (D (133, .dup, 1) (mg 65 rfl)) rfl ?_
                refine X_get (v := .int ((u2 (u2 hp0 (t) 4 (nI (p1))) (t) 5 (nI (3))) (t) 3)) C (t) 3 (by omega) hst rfl rfl (by decide) inX5 fX5_22 rfl (D (134, .getfield 22, 3) (mg 66 rfl)) rfl ?_
                refine X_ti (y := nI (p1)) ((((u2_i _ _ _ _ (by omega))).trans (u2_i _ _ _ _ (by omega))).trans hc0_1) ?_
                refine X_iconst (v := nI (1)) C (D (137, .iconst 1, 1) (mg 67 rfl)) (by decide) ?_
                refine X_iadd C (D (138, .iadd, 1) (mg 68 rfl)) ?_
                refine X_ti (y := nI (p1 + 1)) (nI_add (p1) (1)) ?_
                refine X_putI C (t) 3 tyX5 tyX5_ok nmX5 (by omega) hst rfl rfl (by decide) inX5 fX5_22 rfl rfl (by decide +kernel) (D (139, .putfield 22, 3) (mg 69 rfl)) ?_
                exact X_vret C (D (142, .return_, 1) (mg 70 rfl)) ⟨rfl, fun q i z => by rw [u2_ne _ _ _ _ (by omega), u2_ne _ _ _ _ (by omega), u2_ne _ _ _ _ (by omega)]; exact hc0_2 q i z, by rw [hfin.1]; exact ((u2_s _ _ _ _)), by rw [hrx]; exact ((((u2_i _ _ _ _ (by omega))).trans (u2_i _ _ _ _ (by omega))).trans (u2_s _ _ _ _)), by rw [hfin.2]; exact (((u2_i _ _ _ _ (by omega))).trans (u2_s _ _ _ _)), fun z => absurd (hfin.2.symm.trans z) (by decide)⟩
              · skip
                have hfin := tk_3 hrx (by omega) hLe hFi (by rw [← hby]; exact q11)
                refine X_iconst (v := nI (2)) C (D (124, .iconst 2, 1) (mg 60 rfl)) (by decide) ?_
                refine X_goto (tgt := 129) C (D (125, .goto 4, 3) (mg 61 rfl)) (by decide) ?_
                refine X_putI C (t) 5 tyX5 tyX5_ok nmX5 (by omega) hst rfl rfl (by decide) inX5 fX5_29 rfl rfl (by decide +kernel) (D (129, .putfield 29, 3) (mg 63 rfl)) ?_
                refine X_aload_n C 0 (D (132, .aload_n 0, 1) (mg 64 rfl)) rfl rfl ?_
                refine X_dup C (D (133, .dup, 1) (mg 65 rfl)) rfl ?_
                refine X_get (v := .int ((u2 (u2 hp0 (t) 4 (nI (p1))) (t) 5 (nI (2))) (t) 3)) C (t) 3 (by omega) hst rfl rfl (by decide) inX5 fX5_22 rfl (D (134, .getfield 22, 3) (mg 66 rfl)) rfl ?_
                refine X_ti (y := nI (p1)) ((((u2_i _ _ _ _ (by omega))).trans (u2_i _ _ _ _ (by omega))).trans hc0_1) ?_
                refine X_iconst (v := nI (1)) C (D (137, .iconst 1, 1) (mg 67 rfl)) (by decide) ?_
                refine X_iadd C (D (138, .iadd, 1) (mg 68 rfl)) ?_
                refine X_ti (y := nI (p1 + 1)) (nI_add (p1) (1)) ?_
                refine X_putI C (t) 3 tyX5 tyX5_ok nmX5 (by omega) hst rfl rfl (by decide) inX5 fX5_22 rfl rfl (by decide +kernel) (D (139, .putfield 22, 3) (mg 69 rfl)) ?_
                exact X_vret C (D (142, .return_, 1) (mg 70 rfl)) ⟨rfl, fun q i z => by rw [u2_ne _ _ _ _ (by omega), u2_ne _ _ _ _ (by omega), u2_ne _ _ _ _ (by omega)]; exact hc0_2 q i z, by rw [hfin.1]; exact ((u2_s _ _ _ _)), by rw [hrx]; exact ((((u2_i _ _ _ _ (by omega))).trans (u2_i _ _ _ _ (by omega))).trans (u2_s _ _ _ _)), by rw [hfin.2]; exact (((u2_i _ _ _ _ (by omega))).trans (u2_s _ _ _ _)), fun z => absurd (hfin.2.symm.trans z) (by decide)⟩
            · skip
              have q10 : (48 ≤ ((u2 hp0 (t) 4 (nI (p1))) (t + 1) (p1)).toInt ∧ ((u2 hp0 (t) 4 (nI (p1))) (t + 1) (p1)).toInt ≤ 57) := bz1.mp q10
              have hfin := tk_2 hrx (by omega) hLe (isFi_t (by rw [← hby]; exact q10))
              refine X_aload_n C 0 (D (102, .aload_n 0, 1) (mg 49 rfl)) rfl rfl ?_
              refine X_cV (As := []) (st := []) C (post := _) (t) (by omega) hst rfl (cx_X5_advanceNumber hw (t := t) (n := n) hX hn (B := B) (p := p1) (by omega) (u2 hp0 (t) 4 (nI (p1))) g (((u2_i _ _ _ _ (by omega))).trans ((hc0_2 _ _ (by omega)).trans hb)) (fun i hi => by rw [u2_p _ _ _ _ (by omega), hc0_2 _ _ (by omega)]; exact hB i hi) (((u2_i _ _ _ _ (by omega))).trans hc0_1) ((u2_s _ _ _ _))) kX5_52 (by decide) (by decide) rfl rfl (Nat.le_of_ble_eq_true rfl) (D (103, .invokevirtual 52, 3) (mg 50 rfl)) rfl (fun v14 H12 G13 hv14 => ?_)
              obtain ⟨rfl, f15, ee16, hxe16⟩ := hv14
              show X k w _ 106 [some (.ref (wA w (t)))] [] H12 G13
              refine X_goto (tgt := 142) C (D (106, .goto 36, 3) (mg 51 rfl)) (by decide) ?_
              exact X_vret C (D (142, .return_, 1) (mg 70 rfl)) ⟨rfl, fun q i z => by rw [f15 _ _ (by omega), u2_ne _ _ _ _ (by omega)]; exact hc0_2 q i z, by rw [hfin.1]; exact ee16, by rw [hrx]; exact (((f15 _ _ (by omega))).trans (u2_s _ _ _ _)), by rw [hfin.2.1]; refine (hxe16.1).trans ?_; split <;> rfl, fun _ => by rw [hfin.2.2]; exact hxe16.2⟩
          · skip
            have q6 : (97 ≤ ((u2 hp0 (t) 4 (nI (p1))) (t + 1) (p1)).toInt ∧ ((u2 hp0 (t) 4 (nI (p1))) (t + 1) (p1)).toInt ≤ 122) := bz1.mp q6
            have hfin := tk_1 hrx (by omega) (isLe_t (by rw [← hby]; exact q6))
            refine X_aload_n C 0 (D (80, .aload_n 0, 1) (mg 39 rfl)) rfl rfl ?_
            refine X_cV (As := []) (st := []) C (post := _) (t) (by omega) hst rfl (cx_X5_advanceWord hw (t := t) (n := n) hX hn (B := B) (p := p1) (by omega) (u2 hp0 (t) 4 (nI (p1))) g (((u2_i _ _ _ _ (by omega))).trans ((hc0_2 _ _ (by omega)).trans hb)) (fun i hi => by rw [u2_p _ _ _ _ (by omega), hc0_2 _ _ (by omega)]; exact hB i hi) (((u2_i _ _ _ _ (by omega))).trans hc0_1) ((u2_s _ _ _ _))) kX5_46 (by decide) (by decide) rfl rfl (Nat.le_of_ble_eq_true rfl) (D (81, .invokevirtual 46, 3) (mg 40 rfl)) rfl (fun v19 H17 G18 hv19 => ?_)
            obtain ⟨rfl, f20, ee21, hxe21⟩ := hv19
            show X k w _ 84 [some (.ref (wA w (t)))] [] H17 G18
            refine X_goto (tgt := 142) C (D (84, .goto 58, 3) (mg 41 rfl)) (by decide) ?_
            exact X_vret C (D (142, .return_, 1) (mg 70 rfl)) ⟨rfl, fun q i z => by rw [f20 _ _ (by omega), u2_ne _ _ _ _ (by omega)]; exact hc0_2 q i z, by rw [hfin.1]; exact ee21, by rw [hrx]; exact (((f20 _ _ (by omega))).trans (u2_s _ _ _ _)), by rw [hfin.2]; exact hxe21, fun z => absurd (hfin.2.symm.trans z) (by decide)⟩
        · skip
          have q2 : (p1) ≥ (n) := by have z : ¬ ((p1) < (n)) := fun u => q2 ((nI_ltI (a := (p1)) (b := (n)) (by omega) (by omega)).mpr u); omega
          have hfin := tk_0 hrx (by omega)
          refine X_aload_n C 0 (D (57, .aload_n 0, 1) (mg 28 rfl)) rfl rfl ?_
          refine X_iconst (v := nI (4)) C (D (58, .iconst 4, 1) (mg 29 rfl)) (by decide) ?_
          refine X_putI C (t) 5 tyX5 tyX5_ok nmX5 (by omega) hst rfl rfl (by decide) inX5 fX5_29 rfl rfl (by decide +kernel) (D (59, .putfield 29, 3) (mg 30 rfl)) ?_
          refine X_goto (tgt := 142) C (D (62, .goto 80, 3) (mg 31 rfl)) (by decide) ?_
          exact X_vret C (D (142, .return_, 1) (mg 70 rfl)) ⟨rfl, fun q i z => by rw [u2_ne _ _ _ _ (by omega), u2_ne _ _ _ _ (by omega)]; exact hc0_2 q i z, by rw [hfin.1]; exact ((((u2_i _ _ _ _ (by omega))).trans (u2_i _ _ _ _ (by omega))).trans hc0_1), by rw [hrx]; exact (((u2_i _ _ _ _ (by omega))).trans (u2_s _ _ _ _)), by rw [hfin.2]; exact ((u2_s _ _ _ _)), fun z => absurd (hfin.2.symm.trans z) (by decide)⟩
      · skip
        have q1 : (p1) < (n) := by have z : ¬ ((n) ≤ (p1)) := fun u => q1 ((nI_leI (a := (n)) (b := (p1)) (by omega) (by omega)).mpr u); omega
        refine X_aload_n C 0 (D (11, .aload_n 0, 1) (mg 5 rfl)) rfl rfl ?_
        refine X_get (v := .ref (wA w (t + 1))) C (t) 0 (by omega) hst rfl rfl (by decide) inX5 fX5_9 rfl (D (12, .getfield 9, 3) (mg 6 rfl)) rfl ?_
        refine X_aload_n C 0 (D (15, .aload_n 0, 1) (mg 7 rfl)) rfl rfl ?_
        refine X_get (v := .int (hp0 (t) 3)) C (t) 3 (by omega) hst rfl rfl (by decide) inX5 fX5_22 rfl (D (16, .getfield 22, 3) (mg 8 rfl)) rfl ?_
        refine X_ti (y := nI (p1)) (hc0_1) ?_
        refine X_iald (v := hp0 (t + 1) (p1)) C (t + 1) (by omega) hs1 (vp_in_nI (by omega) (by omega)) (D (19, .iaload, 1) (mg 9 rfl)) (by rw [nI_clamp (by omega)]) ?_
        refine X_bipush (v := nI (32)) C (D (20, .bipush 32, 2) (mg 10 rfl)) (by decide) ?_
        refine X_icmp_ne (tgt := 38) C (D (22, .if_icmp .ne 16, 3) (mg 11 rfl)) (by decide) (fun q22 => ?_) (fun q22 => ?_)
        · skip
          have hrx : tS B n p = p1 := hc0_3.symm.trans (rn_stop (Or.inr (isSp_f (by rw [← hB p1 (by omega), ← hc0_2 (t + 1) p1 (by omega)]; exact q22))))
          refine X_aload_n C 0 (D (38, .aload_n 0, 1) (mg 19 rfl)) rfl rfl ?_
          refine X_aload_n C 0 (D (39, .aload_n 0, 1) (mg 20 rfl)) rfl rfl ?_
          refine X_get (v := .int (hp0 (t) 3)) C (t) 3 (by omega) hst rfl rfl (by decide) inX5 fX5_22 rfl (D (40, .getfield 22, 3) (mg 21 rfl)) rfl ?_
          refine X_ti (y := nI (p1)) (hc0_1) ?_
          refine X_putI C (t) 4 tyX5 tyX5_ok nmX5 (by omega) hst rfl rfl (by decide) inX5 fX5_36 rfl rfl (by decide +kernel) (D (43, .putfield 36, 3) (mg 22 rfl)) ?_
          refine X_aload_n C 0 (D (46, .aload_n 0, 1) (mg 23 rfl)) rfl rfl ?_
          refine X_get (v := .int ((u2 hp0 (t) 4 (nI (p1))) (t) 3)) C (t) 3 (by omega) hst rfl rfl (by decide) inX5 fX5_22 rfl (D (47, .getfield 22, 3) (mg 24 rfl)) rfl ?_
          refine X_ti (y := nI (p1)) (((u2_i _ _ _ _ (by omega))).trans hc0_1) ?_
          refine X_aload_n C 0 (D (50, .aload_n 0, 1) (mg 25 rfl)) rfl rfl ?_
          refine X_get (v := .int ((u2 hp0 (t) 4 (nI (p1))) (t) 2)) C (t) 2 (by omega) hst rfl rfl (by decide) inX5 fX5_39 rfl (D (51, .getfield 39, 3) (mg 26 rfl)) rfl ?_
          refine X_ti (y := nI (n)) (((u2_i _ _ _ _ (by omega))).trans ((hc0_2 _ _ (by omega)).trans hb)) ?_
          refine X_icmp_lt (tgt := 65) C (D (54, .if_icmp .lt 11, 3) (mg 27 rfl)) (by decide) (fun q23 => ?_) (fun q23 => ?_)
          · skip
            have q23 : (p1) < (n) := by have z := (nI_ltI (a := (p1)) (b := (n)) (by omega) (by omega)).mp q23; omega
            have hby : (u2 hp0 (t) 4 (nI (p1))) (t + 1) (p1) = B p1 := (u2_p _ _ _ _ (by omega)).trans ((hc0_2 _ _ (by omega)).trans (hB p1 (by omega)))
            refine X_aload_n C 0 (D (65, .aload_n 0, 1) (mg 32 rfl)) rfl rfl ?_
            refine X_get (v := .ref (wA w (t + 1))) C (t) 0 (by omega) hst rfl rfl (by decide) inX5 fX5_9 rfl (D (66, .getfield 9, 3) (mg 33 rfl)) rfl ?_
            refine X_aload_n C 0 (D (69, .aload_n 0, 1) (mg 34 rfl)) rfl rfl ?_
            refine X_get (v := .int ((u2 hp0 (t) 4 (nI (p1))) (t) 3)) C (t) 3 (by omega) hst rfl rfl (by decide) inX5 fX5_22 rfl (D (70, .getfield 22, 3) (mg 35 rfl)) rfl ?_
            refine X_ti (y := nI (p1)) (((u2_i _ _ _ _ (by omega))).trans hc0_1) ?_
            refine X_iald (v := (u2 hp0 (t) 4 (nI (p1))) (t + 1) (p1)) C (t + 1) (by omega) hs1 (vp_in_nI (by omega) (by omega)) (D (73, .iaload, 1) (mg 36 rfl)) (by rw [nI_clamp (by omega)]) ?_
            refine X_cS (As := [.int ((u2 hp0 (t) 4 (nI (p1))) (t + 1) (p1))]) (st := []) C (post := _) (ct_X5_isLetter hw ((u2 hp0 (t) 4 (nI (p1))) (t + 1) (p1)) (u2 hp0 (t) 4 (nI (p1))) g) kX5_42 (by decide) (by decide) rfl rfl (Nat.le_of_ble_eq_true rfl) (D (74, .invokestatic 42, 3) (mg 37 rfl)) rfl (fun v26 H24 G25 hv26 => ?_)
            obtain ⟨rfl, rfl, rfl⟩ := hv26
            show X k w _ 77 [some (.ref (wA w (t)))] [.int (if 97 ≤ ((u2 hp0 (t) 4 (nI (p1))) (t + 1) (p1)).toInt ∧ ((u2 hp0 (t) 4 (nI (p1))) (t + 1) (p1)).toInt ≤ 122 then 1 else 0)] (u2 hp0 (t) 4 (nI (p1))) g
            refine X_if_eq (tgt := 87) C (D (77, .ifCond .eq 10, 3) (mg 38 rfl)) (by decide) (fun q27 => ?_) (fun q27 => ?_)
            · skip
              have q27 : ¬ (97 ≤ ((u2 hp0 (t) 4 (nI (p1))) (t + 1) (p1)).toInt ∧ ((u2 hp0 (t) 4 (nI (p1))) (t + 1) (p1)).toInt ≤ 122) := bz0.mp q27
              have hLe := isLe_f (x := B p1) (by rw [← hby]; exact q27)
              refine X_aload_n C 0 (D (87, .aload_n 0, 1) (mg 42 rfl)) rfl rfl ?_
              refine X_get (v := .ref (wA w (t + 1))) C (t) 0 (by omega) hst rfl rfl (by decide) inX5 fX5_9 rfl (D (88, .getfield 9, 3) (mg 43 rfl)) rfl ?_
              refine X_aload_n C 0 (D (91, .aload_n 0, 1) (mg 44 rfl)) rfl rfl ?_
              refine X_get (v := .int ((u2 hp0 (t) 4 (nI (p1))) (t) 3)) C (t) 3 (by omega) hst rfl rfl (by decide) inX5 fX5_22 rfl (D (92, .getfield 22, 3) (mg 45 rfl)) rfl ?_
              refine X_ti (y := nI (p1)) (((u2_i _ _ _ _ (by omega))).trans hc0_1) ?_
              refine X_iald (v := (u2 hp0 (t) 4 (nI (p1))) (t + 1) (p1)) C (t + 1) (by omega) hs1 (vp_in_nI (by omega) (by omega)) (D (95, .iaload, 1) (mg 46 rfl)) (by rw [nI_clamp (by omega)]) ?_
              refine X_cS (As := [.int ((u2 hp0 (t) 4 (nI (p1))) (t + 1) (p1))]) (st := []) C (post := _) (ct_X5_isFigure hw ((u2 hp0 (t) 4 (nI (p1))) (t + 1) (p1)) (u2 hp0 (t) 4 (nI (p1))) g) kX5_49 (by decide) (by decide) rfl rfl (Nat.le_of_ble_eq_true rfl) (D (96, .invokestatic 49, 3) (mg 47 rfl)) rfl (fun v30 H28 G29 hv30 => ?_)
              obtain ⟨rfl, rfl, rfl⟩ := hv30
              show X k w _ 99 [some (.ref (wA w (t)))] [.int (if 48 ≤ ((u2 hp0 (t) 4 (nI (p1))) (t + 1) (p1)).toInt ∧ ((u2 hp0 (t) 4 (nI (p1))) (t + 1) (p1)).toInt ≤ 57 then 1 else 0)] (u2 hp0 (t) 4 (nI (p1))) g
              refine X_if_eq (tgt := 109) C (D (99, .ifCond .eq 10, 3) (mg 48 rfl)) (by decide) (fun q31 => ?_) (fun q31 => ?_)
              · skip
                have q31 : ¬ (48 ≤ ((u2 hp0 (t) 4 (nI (p1))) (t + 1) (p1)).toInt ∧ ((u2 hp0 (t) 4 (nI (p1))) (t + 1) (p1)).toInt ≤ 57) := bz0.mp q31
                have hFi := isFi_f (x := B p1) (by rw [← hby]; exact q31)
                refine X_aload_n C 0 (D (109, .aload_n 0, 1) (mg 52 rfl)) rfl rfl ?_
                refine X_aload_n C 0 (D (110, .aload_n 0, 1) (mg 53 rfl)) rfl rfl ?_
                refine X_get (v := .ref (wA w (t + 1))) C (t) 0 (by omega) hst rfl rfl (by decide) inX5 fX5_9 rfl (D (111, .getfield 9, 3) (mg 54 rfl)) rfl ?_
                refine X_aload_n C 0 (D (114, .aload_n 0, 1) (mg 55 rfl)) rfl rfl ?_
                refine X_get (v := .int ((u2 hp0 (t) 4 (nI (p1))) (t) 3)) C (t) 3 (by omega) hst rfl rfl (by decide) inX5 fX5_22 rfl (D (115, .getfield 22, 3) (mg 56 rfl)) rfl ?_
                refine X_ti (y := nI (p1)) (((u2_i _ _ _ _ (by omega))).trans hc0_1) ?_
                refine X_iald (v := (u2 hp0 (t) 4 (nI (p1))) (t + 1) (p1)) C (t + 1) (by omega) hs1 (vp_in_nI (by omega) (by omega)) (D (118, .iaload, 1) (mg 57 rfl)) (by rw [nI_clamp (by omega)]) ?_
                refine X_bipush (v := nI (59)) C (D (119, .bipush 59, 2) (mg 58 rfl)) (by decide) ?_
                refine X_icmp_ne (tgt := 128) C (D (121, .if_icmp .ne 7, 3) (mg 59 rfl)) (by decide) (fun q32 => ?_) (fun q32 => ?_)
                · skip
                  have hfin := tk_4 hrx (by omega) hLe hFi (by rw [← hby]; exact q32)
                  refine X_iconst (v := nI (3)) C (D (128, .iconst 3, 1) (mg 62 rfl)) (by decide) ?_
                  refine X_putI C (t) 5 tyX5 tyX5_ok nmX5 (by omega) hst rfl rfl (by decide) inX5 fX5_29 rfl rfl (by decide +kernel) (D (129, .putfield 29, 3) (mg 63 rfl)) ?_
                  refine X_aload_n C 0 (D (132, .aload_n 0, 1) (mg 64 rfl)) rfl rfl ?_
                  refine X_dup C (D (133, .dup, 1) (mg 65 rfl)) rfl ?_
                  refine X_get (v := .int ((u2 (u2 hp0 (t) 4 (nI (p1))) (t) 5 (nI (3))) (t) 3)) C (t) 3 (by omega) hst rfl rfl (by decide) inX5 fX5_22 rfl (D (134, .getfield 22, 3) (mg 66 rfl)) rfl ?_
                  refine X_ti (y := nI (p1)) ((((u2_i _ _ _ _ (by omega))).trans (u2_i _ _ _ _ (by omega))).trans hc0_1) ?_
                  refine X_iconst (v := nI (1)) C (D (137, .iconst 1, 1) (mg 67 rfl)) (by decide) ?_
                  refine X_iadd C (D (138, .iadd, 1) (mg 68 rfl)) ?_
                  refine X_ti (y := nI (p1 + 1)) (nI_add (p1) (1)) ?_
                  refine X_putI C (t) 3 tyX5 tyX5_ok nmX5 (by omega) hst rfl rfl (by decide) inX5 fX5_22 rfl rfl (by decide +kernel) (D (139, .putfield 22, 3) (mg 69 rfl)) ?_
                  exact X_vret C (D (142, .return_, 1) (mg 70 rfl)) ⟨rfl, fun q i z => by rw [u2_ne _ _ _ _ (by omega), u2_ne _ _ _ _ (by omega), u2_ne _ _ _ _ (by omega)]; exact hc0_2 q i z, by rw [hfin.1]; exact ((u2_s _ _ _ _)), by rw [hrx]; exact ((((u2_i _ _ _ _ (by omega))).trans (u2_i _ _ _ _ (by omega))).trans (u2_s _ _ _ _)), by rw [hfin.2]; exact (((u2_i _ _ _ _ (by omega))).trans (u2_s _ _ _ _)), fun z => absurd (hfin.2.symm.trans z) (by decide)⟩
                · skip
                  have hfin := tk_3 hrx (by omega) hLe hFi (by rw [← hby]; exact q32)
                  refine X_iconst (v := nI (2)) C (D (124, .iconst 2, 1) (mg 60 rfl)) (by decide) ?_
                  refine X_goto (tgt := 129) C (D (125, .goto 4, 3) (mg 61 rfl)) (by decide) ?_
                  refine X_putI C (t) 5 tyX5 tyX5_ok nmX5 (by omega) hst rfl rfl (by decide) inX5 fX5_29 rfl rfl (by decide +kernel) (D (129, .putfield 29, 3) (mg 63 rfl)) ?_
                  refine X_aload_n C 0 (D (132, .aload_n 0, 1) (mg 64 rfl)) rfl rfl ?_
                  refine X_dup C (D (133, .dup, 1) (mg 65 rfl)) rfl ?_
                  refine X_get (v := .int ((u2 (u2 hp0 (t) 4 (nI (p1))) (t) 5 (nI (2))) (t) 3)) C (t) 3 (by omega) hst rfl rfl (by decide) inX5 fX5_22 rfl (D (134, .getfield 22, 3) (mg 66 rfl)) rfl ?_
                  refine X_ti (y := nI (p1)) ((((u2_i _ _ _ _ (by omega))).trans (u2_i _ _ _ _ (by omega))).trans hc0_1) ?_
                  refine X_iconst (v := nI (1)) C (D (137, .iconst 1, 1) (mg 67 rfl)) (by decide) ?_
                  refine X_iadd C (D (138, .iadd, 1) (mg 68 rfl)) ?_
                  refine X_ti (y := nI (p1 + 1)) (nI_add (p1) (1)) ?_
                  refine X_putI C (t) 3 tyX5 tyX5_ok nmX5 (by omega) hst rfl rfl (by decide) inX5 fX5_22 rfl rfl (by decide +kernel) (D (139, .putfield 22, 3) (mg 69 rfl)) ?_
                  exact X_vret C (D (142, .return_, 1) (mg 70 rfl)) ⟨rfl, fun q i z => by rw [u2_ne _ _ _ _ (by omega), u2_ne _ _ _ _ (by omega), u2_ne _ _ _ _ (by omega)]; exact hc0_2 q i z, by rw [hfin.1]; exact ((u2_s _ _ _ _)), by rw [hrx]; exact ((((u2_i _ _ _ _ (by omega))).trans (u2_i _ _ _ _ (by omega))).trans (u2_s _ _ _ _)), by rw [hfin.2]; exact (((u2_i _ _ _ _ (by omega))).trans (u2_s _ _ _ _)), fun z => absurd (hfin.2.symm.trans z) (by decide)⟩
              · skip
                have q31 : (48 ≤ ((u2 hp0 (t) 4 (nI (p1))) (t + 1) (p1)).toInt ∧ ((u2 hp0 (t) 4 (nI (p1))) (t + 1) (p1)).toInt ≤ 57) := bz1.mp q31
                have hfin := tk_2 hrx (by omega) hLe (isFi_t (by rw [← hby]; exact q31))
                refine X_aload_n C 0 (D (102, .aload_n 0, 1) (mg 49 rfl)) rfl rfl ?_
                refine X_cV (As := []) (st := []) C (post := _) (t) (by omega) hst rfl (cx_X5_advanceNumber hw (t := t) (n := n) hX hn (B := B) (p := p1) (by omega) (u2 hp0 (t) 4 (nI (p1))) g (((u2_i _ _ _ _ (by omega))).trans ((hc0_2 _ _ (by omega)).trans hb)) (fun i hi => by rw [u2_p _ _ _ _ (by omega), hc0_2 _ _ (by omega)]; exact hB i hi) (((u2_i _ _ _ _ (by omega))).trans hc0_1) ((u2_s _ _ _ _))) kX5_52 (by decide) (by decide) rfl rfl (Nat.le_of_ble_eq_true rfl) (D (103, .invokevirtual 52, 3) (mg 50 rfl)) rfl (fun v35 H33 G34 hv35 => ?_)
                obtain ⟨rfl, f36, ee37, hxe37⟩ := hv35
                show X k w _ 106 [some (.ref (wA w (t)))] [] H33 G34
                refine X_goto (tgt := 142) C (D (106, .goto 36, 3) (mg 51 rfl)) (by decide) ?_
                exact X_vret C (D (142, .return_, 1) (mg 70 rfl)) ⟨rfl, fun q i z => by rw [f36 _ _ (by omega), u2_ne _ _ _ _ (by omega)]; exact hc0_2 q i z, by rw [hfin.1]; exact ee37, by rw [hrx]; exact (((f36 _ _ (by omega))).trans (u2_s _ _ _ _)), by rw [hfin.2.1]; refine (hxe37.1).trans ?_; split <;> rfl, fun _ => by rw [hfin.2.2]; exact hxe37.2⟩
            · skip
              have q27 : (97 ≤ ((u2 hp0 (t) 4 (nI (p1))) (t + 1) (p1)).toInt ∧ ((u2 hp0 (t) 4 (nI (p1))) (t + 1) (p1)).toInt ≤ 122) := bz1.mp q27
              have hfin := tk_1 hrx (by omega) (isLe_t (by rw [← hby]; exact q27))
              refine X_aload_n C 0 (D (80, .aload_n 0, 1) (mg 39 rfl)) rfl rfl ?_
              refine X_cV (As := []) (st := []) C (post := _) (t) (by omega) hst rfl (cx_X5_advanceWord hw (t := t) (n := n) hX hn (B := B) (p := p1) (by omega) (u2 hp0 (t) 4 (nI (p1))) g (((u2_i _ _ _ _ (by omega))).trans ((hc0_2 _ _ (by omega)).trans hb)) (fun i hi => by rw [u2_p _ _ _ _ (by omega), hc0_2 _ _ (by omega)]; exact hB i hi) (((u2_i _ _ _ _ (by omega))).trans hc0_1) ((u2_s _ _ _ _))) kX5_46 (by decide) (by decide) rfl rfl (Nat.le_of_ble_eq_true rfl) (D (81, .invokevirtual 46, 3) (mg 40 rfl)) rfl (fun v40 H38 G39 hv40 => ?_)
              obtain ⟨rfl, f41, ee42, hxe42⟩ := hv40
              show X k w _ 84 [some (.ref (wA w (t)))] [] H38 G39
              refine X_goto (tgt := 142) C (D (84, .goto 58, 3) (mg 41 rfl)) (by decide) ?_
              exact X_vret C (D (142, .return_, 1) (mg 70 rfl)) ⟨rfl, fun q i z => by rw [f41 _ _ (by omega), u2_ne _ _ _ _ (by omega)]; exact hc0_2 q i z, by rw [hfin.1]; exact ee42, by rw [hrx]; exact (((f41 _ _ (by omega))).trans (u2_s _ _ _ _)), by rw [hfin.2]; exact hxe42, fun z => absurd (hfin.2.symm.trans z) (by decide)⟩
          · skip
            have q23 : (p1) ≥ (n) := by have z : ¬ ((p1) < (n)) := fun u => q23 ((nI_ltI (a := (p1)) (b := (n)) (by omega) (by omega)).mpr u); omega
            have hfin := tk_0 hrx (by omega)
            refine X_aload_n C 0 (D (57, .aload_n 0, 1) (mg 28 rfl)) rfl rfl ?_
            refine X_iconst (v := nI (4)) C (D (58, .iconst 4, 1) (mg 29 rfl)) (by decide) ?_
            refine X_putI C (t) 5 tyX5 tyX5_ok nmX5 (by omega) hst rfl rfl (by decide) inX5 fX5_29 rfl rfl (by decide +kernel) (D (59, .putfield 29, 3) (mg 30 rfl)) ?_
            refine X_goto (tgt := 142) C (D (62, .goto 80, 3) (mg 31 rfl)) (by decide) ?_
            exact X_vret C (D (142, .return_, 1) (mg 70 rfl)) ⟨rfl, fun q i z => by rw [u2_ne _ _ _ _ (by omega), u2_ne _ _ _ _ (by omega)]; exact hc0_2 q i z, by rw [hfin.1]; exact ((((u2_i _ _ _ _ (by omega))).trans (u2_i _ _ _ _ (by omega))).trans hc0_1), by rw [hrx]; exact (((u2_i _ _ _ _ (by omega))).trans (u2_s _ _ _ _)), by rw [hfin.2]; exact ((u2_s _ _ _ _)), fun z => absurd (hfin.2.symm.trans z) (by decide)⟩
        · skip
          have hrn : rn isSp B n (p1 + 1) = rn isSp B n p := (rn_step (by omega) (isSp_t (by rw [← hB p1 (by omega), ← hc0_2 (t + 1) p1 (by omega)]; exact q22))).symm.trans hc0_3
          refine X_aload_n C 0 (D (25, .aload_n 0, 1) (mg 12 rfl)) rfl rfl ?_
          refine X_dup C (D (26, .dup, 1) (mg 13 rfl)) rfl ?_
          refine X_get (v := .int (hp0 (t) 3)) C (t) 3 (by omega) hst rfl rfl (by decide) inX5 fX5_22 rfl (D (27, .getfield 22, 3) (mg 14 rfl)) rfl ?_
          refine X_ti (y := nI (p1)) (hc0_1) ?_
          refine X_iconst (v := nI (1)) C (D (30, .iconst 1, 1) (mg 15 rfl)) (by decide) ?_
          refine X_iadd C (D (31, .iadd, 1) (mg 16 rfl)) ?_
          refine X_ti (y := nI (p1 + 1)) (nI_add (p1) (1)) ?_
          refine X_putI C (t) 3 tyX5 tyX5_ok nmX5 (by omega) hst rfl rfl (by decide) inX5 fX5_22 rfl rfl (by decide +kernel) (D (32, .putfield 22, 3) (mg 17 rfl)) ?_
          refine X_goto (tgt := 0) C (D (35, .goto (-35), 3) (mg 18 rfl)) (by decide) ?_
          refine X_eq (ls' := [some (.ref (wA w (t)))]) (st' := []) (h' := (u2 hp0 (t) 3 (nI (p1 + 1)))) (g' := g) rfl rfl rfl rfl ?_
          exact ih0 (p1 + 1) ((u2 hp0 (t) 3 (nI (p1 + 1)))) (by omega) ((u2_s _ _ _ _)) (fun q i z => by rw [u2_ne _ _ _ _ (by omega)]; exact hc0_2 q i z) hrn (by omega)
  refine X_eq (ls' := [some (.ref (wA w (t)))]) (st' := []) (h' := h) (g' := g) rfl rfl rfl rfl ?_
  exact lp0 _ (p) (h) (by omega) (ha) (fun q i z => rfl) rfl (Nat.le_refl _)
