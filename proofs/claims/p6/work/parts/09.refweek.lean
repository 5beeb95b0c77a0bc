/-! THE REFERENCE, 3: begin, beside, steps, weeks -/
/-- a stretch of a row through f -/
def mp (h : xI) (q a n : Nat) (f : Int32 → Int32) : xI := fun p i => if p = q ∧ a ≤ i ∧ i < a + n then f (h q i) else h p i
theorem mp_0 (h : xI) (q a : Nat) (f : Int32 → Int32) : mp h q a 0 f = h := by
  funext p i; unfold mp; rw [if_neg (by omega)]
theorem mp_at (h : xI) (q a n : Nat) (f : Int32 → Int32) : mp h q a n f q (a + n) = h q (a + n) := by
  unfold mp; rw [if_neg (by omega)]
theorem mp_s (h : xI) (q a n : Nat) (f : Int32 → Int32) {v : Int32} (hv : f (mp h q a n f q (a + n)) = v) : u2 (mp h q a n f) q (a + n) v = mp h q a (n + 1) f := by
  rw [mp_at] at hv
  subst hv
  funext p i
  by_cases e : p = q ∧ i = a + n
  · obtain ⟨rfl, rfl⟩ := e
    rw [u2_s]
    unfold mp
    rw [if_pos (by omega)]
  · unfold u2
    rw [if_neg e]
    unfold mp
    by_cases e2 : p = q ∧ a ≤ i ∧ i < a + n
    · rw [if_pos e2, if_pos (by omega)]
    · rw [if_neg e2, if_neg (by omega)]
theorem mp_k (h : xI) (q a n : Nat) (f : Int32 → Int32) (hv : f (mp h q a n f q (a + n)) = mp h q a n f q (a + n)) : mp h q a n f = mp h q a (n + 1) f := by
  rw [← mp_s h q a n f hv]
  funext p i
  unfold u2
  split
  · rename_i e
    obtain ⟨rfl, rfl⟩ := e
    rfl
  · rfl
def zr (_ : Int32) : Int32 := nI 0
def bgH (h : xI) (q : Nat) (kd c : Int32) : xI := u2 (u2 (mp h q 0 94 zr) q 30 kd) q 28 c
/-- what a WEEK makes of what lies -/
def wk (v : Int32) : Int32 := if ¬ v = 0 then (if mD v = 0 then nI 0 else if nI 99 ≤ mA v then v else v + nI 60) else v
def wkH (h : xI) (q : Nat) : xI := u2 (mp h q 3 25 wk) q 29 (mp h q 3 25 wk q 29 + nI 1)
def wks (q : Nat) : Nat → xI → xI
  | 0, h => h
  | n + 1, h => if nI 9999 ≤ h q 29 then h else wks q n (wkH h q)
def rw94 (w : Kw) (q L : Nat) : Prop := q < wN w ∧ wS w q = .inr (.inl (0, L)) ∧ 94 ≤ L ∧ L < 2147483648
theorem rw94.r {w : Kw} {q L : Nat} (h : rw94 w q L) : rw56 w q L := ⟨h.1, h.2.1, by have := h.2.2.1; omega, h.2.2.2⟩
set_option maxHeartbeats 4000000 in
set_option maxRecDepth 100000 in
theorem ct_X8_begin {l : Launch} {w : Kw} (hw : wOk w) {q L : Nat} (hr : rw94 w q L) (kd c : Int32) (h : xI) (g : xJ)  : Ct l w yX8_begin cX8_begin 4 none 0 0 [.ref (wA w (q)), .int (kd), .int (c)] h g (px none (bgH h q kd c) g) := by
  refine Ct_of (ls := [some (.ref (wA w (q))), some (.int (kd)), some (.int (c)), none]) (by decide) hw (Nat.le_of_ble_eq_true rfl) rfl (fun k hkl C => ?_)
  have C : Cx k w cX8_begin RX8 4 none 0 0 := C
  have D := dtX8_begin
  subst hkl
  obtain ⟨hq0, hs0, hL, hL2⟩ := hr
  refine X_iconst (v := nI (0)) C (D (0, .iconst 0, 1) (mg 0 rfl)) (by decide) ?_
  refine X_istore_n (ls' := [some (.ref (wA w (q))), some (.int (kd)), some (.int (c)), some (.int (nI (0)))]) C 3 (D (1, .istore_n 3, 1) (mg 1 rfl)) rfl (Nat.le_of_ble_eq_true rfl) rfl ?_
  have lp2 : ∀ (nn2 : Nat) (j : Nat), (j ≤ 94) → 95 - j ≤ nn2 → X k w (Zq k w (px none (bgH h q kd c) g)) 2 [some (.ref (wA w (q))), some (.int (kd)), some (.int (c)), some (.int (nI (j)))] [] (mp h q 0 (j) zr) g := by
    intro nn2
    induction nn2 with
    | zero => intro j hc2_0 hz; exact absurd hz (by omega)
    | succ nn2 ih2 =>
      intro j hc2_0 hz2
      refine X_iload_n C 3 (D (2, .iload_n 3, 1) (mg 2 rfl)) rfl rfl ?_
      refine X_bipush (v := nI (94)) C (D (3, .bipush 94, 2) (mg 3 rfl)) (by decide) ?_
      refine X_icmp_ge (tgt := 18) C (D (5, .if_icmp .ge 13, 3) (mg 4 rfl)) (by decide) (fun q1 => ?_) (fun q1 => ?_)
      · skip
        have q1 : (j) ≥ (94) := by have z := (nI_leI (a := (94)) (b := (j)) (by omega) (by omega)).mp q1; omega
        refine X_aload_n C 0 (D (18, .aload_n 0, 1) (mg 11 rfl)) rfl rfl ?_
        refine X_bipush (v := nI (30)) C (D (19, .bipush 30, 2) (mg 12 rfl)) (by decide) ?_
        refine X_iload_n C 1 (D (21, .iload_n 1, 1) (mg 13 rfl)) rfl rfl ?_
        refine X_iast (j := 30) C (q) hq0 hs0 (vp_in_nI (by omega) (by omega)) (D (22, .iastore, 1) (mg 14 rfl)) (nI_clamp (by omega)) ?_
        refine X_aload_n C 0 (D (23, .aload_n 0, 1) (mg 15 rfl)) rfl rfl ?_
        refine X_bipush (v := nI (28)) C (D (24, .bipush 28, 2) (mg 16 rfl)) (by decide) ?_
        refine X_iload_n C 2 (D (26, .iload_n 2, 1) (mg 17 rfl)) rfl rfl ?_
        refine X_iast (j := 28) C (q) hq0 hs0 (vp_in_nI (by omega) (by omega)) (D (27, .iastore, 1) (mg 18 rfl)) (nI_clamp (by omega)) ?_
        exact X_vret C (D (28, .return_, 1) (mg 19 rfl)) ⟨rfl, by rw [show j = 94 by omega]; rfl, rfl⟩
      · skip
        have q1 : (j) < (94) := by have z : ¬ ((94) ≤ (j)) := fun u => q1 ((nI_leI (a := (94)) (b := (j)) (by omega) (by omega)).mpr u); omega
        refine X_aload_n C 0 (D (8, .aload_n 0, 1) (mg 5 rfl)) rfl rfl ?_
        refine X_iload_n C 3 (D (9, .iload_n 3, 1) (mg 6 rfl)) rfl rfl ?_
        refine X_iconst (v := nI (0)) C (D (10, .iconst 0, 1) (mg 7 rfl)) (by decide) ?_
        refine X_iast (j := j) C (q) hq0 hs0 (vp_in_nI (by omega) (by omega)) (D (11, .iastore, 1) (mg 8 rfl)) (nI_clamp (by omega)) ?_
        refine X_iinc (v := nI (j + 1)) (ls' := [some (.ref (wA w (q))), some (.int (kd)), some (.int (c)), some (.int (nI (j + 1)))]) C (D (12, .iinc 3 1, 3) (mg 9 rfl)) rfl (nI_add (j) 1) rfl ?_
        refine X_goto (tgt := 2) C (D (15, .goto (-13), 3) (mg 10 rfl)) (by decide) ?_
        refine X_eq (ls' := [some (.ref (wA w (q))), some (.int (kd)), some (.int (c)), some (.int (nI (j + 1)))]) (st' := []) (h' := (mp h q 0 (j + 1) zr)) (g' := g) rfl rfl (by have z := mp_s h q 0 (j) zr (v := nI (0)) rfl; rw [Nat.zero_add] at z; exact z) rfl ?_
        exact ih2 (j + 1) (by omega) (by omega)
  refine X_eq (ls' := [some (.ref (wA w (q))), some (.int (kd)), some (.int (c)), some (.int (nI (0)))]) (st' := []) (h' := (mp h q 0 (0) zr)) (g' := g) rfl rfl (mp_0 h q 0 zr).symm rfl ?_
  exact lp2 _ (0) (by omega) (Nat.le_refl _)
set_option maxHeartbeats 4000000 in
set_option maxRecDepth 100000 in
theorem ct_X8_goWeek {l : Launch} {w : Kw} (hw : wOk w) {q L : Nat} (hr : rw56 w q L) (h : xI) (g : xJ)  : Ct l w yX8_goWeek cX8_goWeek 2 none 1 21 [.ref (wA w (q))] h g (px none (wkH h q) g) := by
  refine Ct_of (ls := [some (.ref (wA w (q))), none]) (by decide) hw (Nat.le_of_ble_eq_true rfl) rfl (fun k hkl C => ?_)
  have C : Cx k w cX8_goWeek RX8 2 none 1 21 := C
  have D := dtX8_goWeek
  subst hkl
  have hr0 := hr
  obtain ⟨hq0, hs0, hL, hL2⟩ := hr
  have hr := hr0
  refine X_iconst (v := nI (0)) C (D (0, .iconst 0, 1) (mg 0 rfl)) (by decide) ?_
  refine X_istore_n (ls' := [some (.ref (wA w (q))), some (.int (nI (0)))]) C 1 (D (1, .istore_n 1, 1) (mg 1 rfl)) rfl (Nat.le_of_ble_eq_true rfl) rfl ?_
  have lp2 : ∀ (nn2 : Nat) (j : Nat), (j ≤ 25) → 26 - j ≤ nn2 → X k w (Zq k w (px none (wkH h q) g)) 2 [some (.ref (wA w (q))), some (.int (nI (j)))] [] (mp h q 3 (j) wk) g := by
    intro nn2
    induction nn2 with
    | zero => intro j hc2_0 hz; exact absurd hz (by omega)
    | succ nn2 ih2 =>
      intro j hc2_0 hz2
      refine X_iload_n C 1 (D (2, .iload_n 1, 1) (mg 2 rfl)) rfl rfl ?_
      refine X_bipush (v := nI (25)) C (D (3, .bipush 25, 2) (mg 3 rfl)) (by decide) ?_
      refine X_icmp_ge (tgt := 67) C (D (5, .if_icmp .ge 62, 3) (mg 4 rfl)) (by decide) (fun q1 => ?_) (fun q1 => ?_)
      · skip
        have q1 : (j) ≥ (25) := by have z := (nI_leI (a := (25)) (b := (j)) (by omega) (by omega)).mp q1; omega
        refine X_aload_n C 0 (D (67, .aload_n 0, 1) (mg 40 rfl)) rfl rfl ?_
        refine X_bipush (v := nI (29)) C (D (68, .bipush 29, 2) (mg 41 rfl)) (by decide) ?_
        refine X_dup2 C (D (70, .dup2, 1) (mg 42 rfl)) rfl rfl ?_
        refine X_iald (v := (mp h q 3 (j) wk) (q) (29)) C (q) hq0 hs0 (vp_in_nI (by omega) (by omega)) (D (71, .iaload, 1) (mg 43 rfl)) (by rw [nI_clamp (by omega)]) ?_
        refine X_iconst (v := nI (1)) C (D (72, .iconst 1, 1) (mg 44 rfl)) (by decide) ?_
        refine X_iadd C (D (73, .iadd, 1) (mg 45 rfl)) ?_
        refine X_iast (j := 29) C (q) hq0 hs0 (vp_in_nI (by omega) (by omega)) (D (74, .iastore, 1) (mg 46 rfl)) (nI_clamp (by omega)) ?_
        exact X_vret C (D (75, .return_, 1) (mg 47 rfl)) ⟨rfl, by rw [show j = 25 by omega]; rfl, rfl⟩
      · skip
        have q1 : (j) < (25) := by have z : ¬ ((25) ≤ (j)) := fun u => q1 ((nI_leI (a := (25)) (b := (j)) (by omega) (by omega)).mpr u); omega
        refine X_aload_n C 0 (D (8, .aload_n 0, 1) (mg 5 rfl)) rfl rfl ?_
        refine X_iload_n C 1 (D (9, .iload_n 1, 1) (mg 6 rfl)) rfl rfl ?_
        refine X_cS (As := [.ref (wA w (q)), .int (nI (j))]) (st := []) C (post := _) (ct_X8_lies hw hr (by omega) (mp h q 3 (j) wk) g) kX8_64 (by decide) (by decide) rfl rfl (Nat.le_of_ble_eq_true rfl) (D (10, .invokestatic 64, 3) (mg 7 rfl)) rfl (fun v4 H2 G3 hv4 => ?_)
        obtain ⟨rfl, rfl, rfl⟩ := hv4
        show X k w _ 13 [some (.ref (wA w (q))), some (.int (nI (j)))] [.int (if ¬ (mp h q 3 (j) wk) (q) (3 + (j)) = 0 then 1 else 0)] (mp h q 3 (j) wk) g
        refine X_if_eq (tgt := 33) C (D (13, .ifCond .eq 20, 3) (mg 8 rfl)) (by decide) (fun q5 => ?_) (fun q5 => ?_)
        · skip
          have q5 : ¬ (¬ (mp h q 3 (j) wk) (q) (3 + (j)) = 0) := bz0.mp q5
          refine X_aload_n C 0 (D (33, .aload_n 0, 1) (mg 20 rfl)) rfl rfl ?_
          refine X_iload_n C 1 (D (34, .iload_n 1, 1) (mg 21 rfl)) rfl rfl ?_
          refine X_cS (As := [.ref (wA w (q)), .int (nI (j))]) (st := []) C (post := _) (ct_X8_lies hw hr (by omega) (mp h q 3 (j) wk) g) kX8_64 (by decide) (by decide) rfl rfl (Nat.le_of_ble_eq_true rfl) (D (35, .invokestatic 64, 3) (mg 22 rfl)) rfl (fun v8 H6 G7 hv8 => ?_)
          obtain ⟨rfl, rfl, rfl⟩ := hv8
          show X k w _ 38 [some (.ref (wA w (q))), some (.int (nI (j)))] [.int (if ¬ (mp h q 3 (j) wk) (q) (3 + (j)) = 0 then 1 else 0)] (mp h q 3 (j) wk) g
          refine X_if_eq (tgt := 61) C (D (38, .ifCond .eq 23, 3) (mg 23 rfl)) (by decide) (fun q9 => ?_) (fun q9 => ?_)
          · skip
            have q9 : ¬ (¬ (mp h q 3 (j) wk) (q) (3 + (j)) = 0) := bz0.mp q9
            refine X_iinc (v := nI (j + 1)) (ls' := [some (.ref (wA w (q))), some (.int (nI (j + 1)))]) C (D (61, .iinc 1 1, 3) (mg 38 rfl)) rfl (nI_add (j) 1) rfl ?_
            refine X_goto (tgt := 2) C (D (64, .goto (-62), 3) (mg 39 rfl)) (by decide) ?_
            refine X_eq (ls' := [some (.ref (wA w (q))), some (.int (nI (j + 1)))]) (st' := []) (h' := (mp h q 3 (j + 1) wk)) (g' := g) rfl rfl (by first | exact mp_k h q 3 (j) wk (if_neg (by assumption)) | exact mp_k h q 3 (j) wk (((if_pos (by assumption)).trans (if_neg (by assumption))).trans (if_pos (by assumption))) | exact absurd (by assumption : ¬ mp h q 3 (j) wk q (3 + j) = 0) (by assumption)) rfl ?_
            exact ih2 (j + 1) (by omega) (by omega)
          · skip
            have q9 : (¬ (mp h q 3 (j) wk) (q) (3 + (j)) = 0) := bz1.mp q9
            refine X_aload_n C 0 (D (41, .aload_n 0, 1) (mg 24 rfl)) rfl rfl ?_
            refine X_iload_n C 1 (D (42, .iload_n 1, 1) (mg 25 rfl)) rfl rfl ?_
            refine X_cS (As := [.ref (wA w (q)), .int (nI (j))]) (st := []) C (post := _) (ct_X8_ageOf hw hr (by omega) (mp h q 3 (j) wk) g) kX8_93 (by decide) (by decide) rfl rfl (Nat.le_of_ble_eq_true rfl) (D (43, .invokestatic 93, 3) (mg 26 rfl)) rfl (fun v12 H10 G11 hv12 => ?_)
            obtain ⟨rfl, rfl, rfl⟩ := hv12
            show X k w _ 46 [some (.ref (wA w (q))), some (.int (nI (j)))] [.int (mA ((mp h q 3 (j) wk) (q) (3 + (j))))] (mp h q 3 (j) wk) g
            refine X_bipush (v := nI (99)) C (D (46, .bipush 99, 2) (mg 27 rfl)) (by decide) ?_
            refine X_icmp_ge (tgt := 61) C (D (48, .if_icmp .ge 13, 3) (mg 28 rfl)) (by decide) (fun q13 => ?_) (fun q13 => ?_)
            · skip
              refine X_iinc (v := nI (j + 1)) (ls' := [some (.ref (wA w (q))), some (.int (nI (j + 1)))]) C (D (61, .iinc 1 1, 3) (mg 38 rfl)) rfl (nI_add (j) 1) rfl ?_
              refine X_goto (tgt := 2) C (D (64, .goto (-62), 3) (mg 39 rfl)) (by decide) ?_
              refine X_eq (ls' := [some (.ref (wA w (q))), some (.int (nI (j + 1)))]) (st' := []) (h' := (mp h q 3 (j + 1) wk)) (g' := g) rfl rfl (by first | exact mp_k h q 3 (j) wk (if_neg (by assumption)) | exact mp_k h q 3 (j) wk (((if_pos (by assumption)).trans (if_neg (by assumption))).trans (if_pos (by assumption))) | exact absurd (by assumption : ¬ mp h q 3 (j) wk q (3 + j) = 0) (by assumption)) rfl ?_
              exact ih2 (j + 1) (by omega) (by omega)
            · skip
              refine X_aload_n C 0 (D (51, .aload_n 0, 1) (mg 29 rfl)) rfl rfl ?_
              refine X_iconst (v := nI (3)) C (D (52, .iconst 3, 1) (mg 30 rfl)) (by decide) ?_
              refine X_iload_n C 1 (D (53, .iload_n 1, 1) (mg 31 rfl)) rfl rfl ?_
              refine X_iadd C (D (54, .iadd, 1) (mg 32 rfl)) ?_
              refine X_ti (y := nI (3 + j)) (nI_add (3) (j)) ?_
              refine X_dup2 C (D (55, .dup2, 1) (mg 33 rfl)) rfl rfl ?_
              refine X_iald (v := (mp h q 3 (j) wk) (q) (3 + j)) C (q) hq0 hs0 (vp_in_nI (by omega) (by omega)) (D (56, .iaload, 1) (mg 34 rfl)) (by rw [nI_clamp (by omega)]) ?_
              refine X_bipush (v := nI (60)) C (D (57, .bipush 60, 2) (mg 35 rfl)) (by decide) ?_
              refine X_iadd C (D (59, .iadd, 1) (mg 36 rfl)) ?_
              refine X_iast (j := 3 + j) C (q) hq0 hs0 (vp_in_nI (by omega) (by omega)) (D (60, .iastore, 1) (mg 37 rfl)) (nI_clamp (by omega)) ?_
              refine X_iinc (v := nI (j + 1)) (ls' := [some (.ref (wA w (q))), some (.int (nI (j + 1)))]) C (D (61, .iinc 1 1, 3) (mg 38 rfl)) rfl (nI_add (j) 1) rfl ?_
              refine X_goto (tgt := 2) C (D (64, .goto (-62), 3) (mg 39 rfl)) (by decide) ?_
              refine X_eq (ls' := [some (.ref (wA w (q))), some (.int (nI (j + 1)))]) (st' := []) (h' := (mp h q 3 (j + 1) wk)) (g' := g) rfl rfl (by first | exact mp_s h q 3 (j) wk (((if_pos (by assumption)).trans (if_neg (by assumption))).trans (if_neg (by assumption))) | exact absurd (by assumption : ¬ mp h q 3 (j) wk q (3 + j) = 0) (by assumption)) rfl ?_
              exact ih2 (j + 1) (by omega) (by omega)
        · skip
          have q5 : (¬ (mp h q 3 (j) wk) (q) (3 + (j)) = 0) := bz1.mp q5
          refine X_aload_n C 0 (D (16, .aload_n 0, 1) (mg 9 rfl)) rfl rfl ?_
          refine X_iload_n C 1 (D (17, .iload_n 1, 1) (mg 10 rfl)) rfl rfl ?_
          refine X_cS (As := [.ref (wA w (q)), .int (nI (j))]) (st := []) C (post := _) (ct_X8_depthOf hw hr (by omega) (mp h q 3 (j) wk) g) kX8_90 (by decide) (by decide) rfl rfl (Nat.le_of_ble_eq_true rfl) (D (18, .invokestatic 90, 3) (mg 11 rfl)) rfl (fun v16 H14 G15 hv16 => ?_)
          obtain ⟨rfl, rfl, rfl⟩ := hv16
          show X k w _ 21 [some (.ref (wA w (q))), some (.int (nI (j)))] [.int (mD ((mp h q 3 (j) wk) (q) (3 + (j))))] (mp h q 3 (j) wk) g
          refine X_if_ne (tgt := 33) C (D (21, .ifCond .ne 12, 3) (mg 12 rfl)) (by decide) (fun q17 => ?_) (fun q17 => ?_)
          · skip
            refine X_aload_n C 0 (D (33, .aload_n 0, 1) (mg 20 rfl)) rfl rfl ?_
            refine X_iload_n C 1 (D (34, .iload_n 1, 1) (mg 21 rfl)) rfl rfl ?_
            refine X_cS (As := [.ref (wA w (q)), .int (nI (j))]) (st := []) C (post := _) (ct_X8_lies hw hr (by omega) (mp h q 3 (j) wk) g) kX8_64 (by decide) (by decide) rfl rfl (Nat.le_of_ble_eq_true rfl) (D (35, .invokestatic 64, 3) (mg 22 rfl)) rfl (fun v20 H18 G19 hv20 => ?_)
            obtain ⟨rfl, rfl, rfl⟩ := hv20
            show X k w _ 38 [some (.ref (wA w (q))), some (.int (nI (j)))] [.int (if ¬ (mp h q 3 (j) wk) (q) (3 + (j)) = 0 then 1 else 0)] (mp h q 3 (j) wk) g
            refine X_if_eq (tgt := 61) C (D (38, .ifCond .eq 23, 3) (mg 23 rfl)) (by decide) (fun q21 => ?_) (fun q21 => ?_)
            · skip
              have q21 : ¬ (¬ (mp h q 3 (j) wk) (q) (3 + (j)) = 0) := bz0.mp q21
              refine X_iinc (v := nI (j + 1)) (ls' := [some (.ref (wA w (q))), some (.int (nI (j + 1)))]) C (D (61, .iinc 1 1, 3) (mg 38 rfl)) rfl (nI_add (j) 1) rfl ?_
              refine X_goto (tgt := 2) C (D (64, .goto (-62), 3) (mg 39 rfl)) (by decide) ?_
              refine X_eq (ls' := [some (.ref (wA w (q))), some (.int (nI (j + 1)))]) (st' := []) (h' := (mp h q 3 (j + 1) wk)) (g' := g) rfl rfl (by first | exact mp_k h q 3 (j) wk (if_neg (by assumption)) | exact mp_k h q 3 (j) wk (((if_pos (by assumption)).trans (if_neg (by assumption))).trans (if_pos (by assumption))) | exact absurd (by assumption : ¬ mp h q 3 (j) wk q (3 + j) = 0) (by assumption)) rfl ?_
              exact ih2 (j + 1) (by omega) (by omega)
            · skip
              have q21 : (¬ (mp h q 3 (j) wk) (q) (3 + (j)) = 0) := bz1.mp q21
              refine X_aload_n C 0 (D (41, .aload_n 0, 1) (mg 24 rfl)) rfl rfl ?_
              refine X_iload_n C 1 (D (42, .iload_n 1, 1) (mg 25 rfl)) rfl rfl ?_
              refine X_cS (As := [.ref (wA w (q)), .int (nI (j))]) (st := []) C (post := _) (ct_X8_ageOf hw hr (by omega) (mp h q 3 (j) wk) g) kX8_93 (by decide) (by decide) rfl rfl (Nat.le_of_ble_eq_true rfl) (D (43, .invokestatic 93, 3) (mg 26 rfl)) rfl (fun v24 H22 G23 hv24 => ?_)
              obtain ⟨rfl, rfl, rfl⟩ := hv24
              show X k w _ 46 [some (.ref (wA w (q))), some (.int (nI (j)))] [.int (mA ((mp h q 3 (j) wk) (q) (3 + (j))))] (mp h q 3 (j) wk) g
              refine X_bipush (v := nI (99)) C (D (46, .bipush 99, 2) (mg 27 rfl)) (by decide) ?_
              refine X_icmp_ge (tgt := 61) C (D (48, .if_icmp .ge 13, 3) (mg 28 rfl)) (by decide) (fun q25 => ?_) (fun q25 => ?_)
              · skip
                refine X_iinc (v := nI (j + 1)) (ls' := [some (.ref (wA w (q))), some (.int (nI (j + 1)))]) C (D (61, .iinc 1 1, 3) (mg 38 rfl)) rfl (nI_add (j) 1) rfl ?_
                refine X_goto (tgt := 2) C (D (64, .goto (-62), 3) (mg 39 rfl)) (by decide) ?_
                refine X_eq (ls' := [some (.ref (wA w (q))), some (.int (nI (j + 1)))]) (st' := []) (h' := (mp h q 3 (j + 1) wk)) (g' := g) rfl rfl (by first | exact mp_k h q 3 (j) wk (if_neg (by assumption)) | exact mp_k h q 3 (j) wk (((if_pos (by assumption)).trans (if_neg (by assumption))).trans (if_pos (by assumption))) | exact absurd (by assumption : ¬ mp h q 3 (j) wk q (3 + j) = 0) (by assumption)) rfl ?_
                exact ih2 (j + 1) (by omega) (by omega)
              · skip
                refine X_aload_n C 0 (D (51, .aload_n 0, 1) (mg 29 rfl)) rfl rfl ?_
                refine X_iconst (v := nI (3)) C (D (52, .iconst 3, 1) (mg 30 rfl)) (by decide) ?_
                refine X_iload_n C 1 (D (53, .iload_n 1, 1) (mg 31 rfl)) rfl rfl ?_
                refine X_iadd C (D (54, .iadd, 1) (mg 32 rfl)) ?_
                refine X_ti (y := nI (3 + j)) (nI_add (3) (j)) ?_
                refine X_dup2 C (D (55, .dup2, 1) (mg 33 rfl)) rfl rfl ?_
                refine X_iald (v := (mp h q 3 (j) wk) (q) (3 + j)) C (q) hq0 hs0 (vp_in_nI (by omega) (by omega)) (D (56, .iaload, 1) (mg 34 rfl)) (by rw [nI_clamp (by omega)]) ?_
                refine X_bipush (v := nI (60)) C (D (57, .bipush 60, 2) (mg 35 rfl)) (by decide) ?_
                refine X_iadd C (D (59, .iadd, 1) (mg 36 rfl)) ?_
                refine X_iast (j := 3 + j) C (q) hq0 hs0 (vp_in_nI (by omega) (by omega)) (D (60, .iastore, 1) (mg 37 rfl)) (nI_clamp (by omega)) ?_
                refine X_iinc (v := nI (j + 1)) (ls' := [some (.ref (wA w (q))), some (.int (nI (j + 1)))]) C (D (61, .iinc 1 1, 3) (mg 38 rfl)) rfl (nI_add (j) 1) rfl ?_
                refine X_goto (tgt := 2) C (D (64, .goto (-62), 3) (mg 39 rfl)) (by decide) ?_
                refine X_eq (ls' := [some (.ref (wA w (q))), some (.int (nI (j + 1)))]) (st' := []) (h' := (mp h q 3 (j + 1) wk)) (g' := g) rfl rfl (by first | exact mp_s h q 3 (j) wk (((if_pos (by assumption)).trans (if_neg (by assumption))).trans (if_neg (by assumption))) | exact absurd (by assumption : ¬ mp h q 3 (j) wk q (3 + j) = 0) (by assumption)) rfl ?_
                exact ih2 (j + 1) (by omega) (by omega)
          · skip
            refine X_aload_n C 0 (D (24, .aload_n 0, 1) (mg 13 rfl)) rfl rfl ?_
            refine X_iconst (v := nI (3)) C (D (25, .iconst 3, 1) (mg 14 rfl)) (by decide) ?_
            refine X_iload_n C 1 (D (26, .iload_n 1, 1) (mg 15 rfl)) rfl rfl ?_
            refine X_iadd C (D (27, .iadd, 1) (mg 16 rfl)) ?_
            refine X_ti (y := nI (3 + j)) (nI_add (3) (j)) ?_
            refine X_iconst (v := nI (0)) C (D (28, .iconst 0, 1) (mg 17 rfl)) (by decide) ?_
            refine X_iast (j := 3 + j) C (q) hq0 hs0 (vp_in_nI (by omega) (by omega)) (D (29, .iastore, 1) (mg 18 rfl)) (nI_clamp (by omega)) ?_
            refine X_goto (tgt := 61) C (D (30, .goto 31, 3) (mg 19 rfl)) (by decide) ?_
            refine X_iinc (v := nI (j + 1)) (ls' := [some (.ref (wA w (q))), some (.int (nI (j + 1)))]) C (D (61, .iinc 1 1, 3) (mg 38 rfl)) rfl (nI_add (j) 1) rfl ?_
            refine X_goto (tgt := 2) C (D (64, .goto (-62), 3) (mg 39 rfl)) (by decide) ?_
            refine X_eq (ls' := [some (.ref (wA w (q))), some (.int (nI (j + 1)))]) (st' := []) (h' := (mp h q 3 (j + 1) wk)) (g' := g) rfl rfl (mp_s h q 3 (j) wk ((if_pos (by assumption)).trans (if_pos (by assumption)))) rfl ?_
            exact ih2 (j + 1) (by omega) (by omega)
  refine X_eq (ls' := [some (.ref (wA w (q))), some (.int (nI (0)))]) (st' := []) (h' := (mp h q 3 (0) wk)) (g' := g) rfl rfl (mp_0 h q 3 wk).symm rfl ?_
  exact lp2 _ (0) (by omega) (Nat.le_refl _)
