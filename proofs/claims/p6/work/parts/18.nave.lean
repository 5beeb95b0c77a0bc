/-! THE CLASS, 1: Harrow, Saying, Nave -/
theorem ne_o {k : Int32} {lo hi : Int} (h : k.toInt < lo ∨ hi < k.toInt) {y : Int32} (hy : lo ≤ y.toInt ∧ y.toInt ≤ hi) : ¬ k = y := by
  intro e; rw [e] at h; omega
/-- by how much a KIND of harrow drags deeper: the class's -/
def deC (k d s : Int32) : Int32 := if k = 0 then nI 4 - s else if k = 1 then nI 4 - s + nI 1 else if k = 2 then (nI 4 - s + nI 1) / nI 2 else if k = 3 then (if nI 1 < s then nI 4 - s + nI 1 else nI 4 - s + nI 1 + nI 3) else if k = 4 then (if (nI 4 - s + nI 1) / nI 2 ≤ nI 1 then (nI 4 - s + nI 1) / nI 2 else nI 1) else (if d ≤ nI 4 - s then nI 4 - s - d else nI 0)
theorem deC_0 {k d s : Int32} (h : k = 0) : deC k d s = nI 4 - s := by subst h; rfl
theorem deC_1 {k d s : Int32} (h : k = 1) : deC k d s = nI 4 - s + nI 1 := by subst h; rfl
theorem deC_2 {k d s : Int32} (h : k = 2) : deC k d s = (nI 4 - s + nI 1) / nI 2 := by subst h; rfl
theorem deC_3 {k d s : Int32} (h : k = 3) : deC k d s = (if nI 1 < s then nI 4 - s + nI 1 else nI 4 - s + nI 1 + nI 3) := by subst h; rfl
theorem deC_4 {k d s : Int32} (h : k = 4) : deC k d s = (if (nI 4 - s + nI 1) / nI 2 ≤ nI 1 then (nI 4 - s + nI 1) / nI 2 else nI 1) := by subst h; rfl
theorem deC_o {k d s : Int32} (h : k.toInt < 0 ∨ 4 < k.toInt) : deC k d s = (if d ≤ nI 4 - s then nI 4 - s - d else nI 0) := by
  unfold deC
  rw [if_neg (ne_o h (by decide)), if_neg (ne_o h (by decide)), if_neg (ne_o h (by decide)), if_neg (ne_o h (by decide)), if_neg (ne_o h (by decide))]
set_option maxHeartbeats 4000000 in
set_option maxRecDepth 100000 in
theorem ct_X0_dragsBy {l : Launch} {w : Kw} (hw : wOk w) (kd d s : Int32) (h : xI) (g : xJ)  : Ct l w yX0_dragsBy cX0_dragsBy 6 (some .int) 0 0 [.int (kd), .int (d), .int (s)] h g (px (some (.int (deC kd d s))) h g) := by
  refine Ct_of (ls := [some (.int (kd)), some (.int (d)), some (.int (s)), none, none, none]) (by decide) hw (Nat.le_of_ble_eq_true rfl) rfl (fun k hkl C => ?_)
  have C : Cx k w cX0_dragsBy RX0 6 (some .int) 0 0 := C
  have D := dtX0_dragsBy
  subst hkl
  refine X_iconst (v := nI (4)) C (D (0, .iconst 4, 1) (mg 0 rfl)) (by decide) ?_
  refine X_iload_n C 2 (D (1, .iload_n 2, 1) (mg 1 rfl)) rfl rfl ?_
  refine X_isub C (D (2, .isub, 1) (mg 2 rfl)) ?_
  refine X_istore_n (ls' := [some (.int (kd)), some (.int (d)), some (.int (s)), some (.int ((nI (4)) - s)), none, none]) C 3 (D (3, .istore_n 3, 1) (mg 3 rfl)) rfl (Nat.le_of_ble_eq_true rfl) rfl ?_
  refine X_iload_n C 3 (D (4, .iload_n 3, 1) (mg 4 rfl)) rfl rfl ?_
  refine X_iconst (v := nI (1)) C (D (5, .iconst 1, 1) (mg 5 rfl)) (by decide) ?_
  refine X_iadd C (D (6, .iadd, 1) (mg 6 rfl)) ?_
  refine X_istore (ls' := [some (.int (kd)), some (.int (d)), some (.int (s)), some (.int ((nI (4)) - s)), some (.int (((nI (4)) - s) + (nI (1)))), none]) C (D (7, .istore 4, 2) (mg 7 rfl)) (Nat.le_of_ble_eq_true rfl) rfl ?_
  refine X_iload_n C 3 (D (9, .iload_n 3, 1) (mg 8 rfl)) rfl rfl ?_
  refine X_iconst (v := nI (1)) C (D (10, .iconst 1, 1) (mg 9 rfl)) (by decide) ?_
  refine X_iadd C (D (11, .iadd, 1) (mg 10 rfl)) ?_
  refine X_iconst (v := nI (2)) C (D (12, .iconst 2, 1) (mg 11 rfl)) (by decide) ?_
  refine X_idiv C (D (13, .idiv, 1) (mg 12 rfl)) (by decide) ?_
  refine X_istore (ls' := [some (.int (kd)), some (.int (d)), some (.int (s)), some (.int ((nI (4)) - s)), some (.int (((nI (4)) - s) + (nI (1)))), some (.int ((((nI (4)) - s) + (nI (1))) / (nI (2))))]) C (D (14, .istore 5, 2) (mg 13 rfl)) (Nat.le_of_ble_eq_true rfl) rfl ?_
  refine X_iload_n C 0 (D (16, .iload_n 0, 1) (mg 14 rfl)) rfl rfl ?_
  rcases sw_0_4 (kd) with q1 | q1 | q1 | q1 | q1 | q1
  · refine X_swIn (tgt := 52) C (D (17, .tableswitch 71 0 4 #[35, 37, 40, 43, 58], 35) (mg 15 rfl)) (0) (by rw [q1]; decide) (by decide) (by decide) rfl (by decide) ?_
    refine X_iload_n C 3 (D (52, .iload_n 3, 1) (mg 16 rfl)) rfl rfl ?_
    exact X_iret C (D (53, .ireturn, 1) (mg 17 rfl)) ⟨congrArg (fun z => some (Value.int z)) (deC_0 (by assumption)), rfl, rfl⟩
  · refine X_swIn (tgt := 54) C (D (17, .tableswitch 71 0 4 #[35, 37, 40, 43, 58], 35) (mg 15 rfl)) (1) (by rw [q1]; decide) (by decide) (by decide) rfl (by decide) ?_
    refine X_iload C (D (54, .iload 4, 2) (mg 18 rfl)) rfl ?_
    exact X_iret C (D (56, .ireturn, 1) (mg 19 rfl)) ⟨congrArg (fun z => some (Value.int z)) (deC_1 (by assumption)), rfl, rfl⟩
  · refine X_swIn (tgt := 57) C (D (17, .tableswitch 71 0 4 #[35, 37, 40, 43, 58], 35) (mg 15 rfl)) (2) (by rw [q1]; decide) (by decide) (by decide) rfl (by decide) ?_
    refine X_iload C (D (57, .iload 5, 2) (mg 20 rfl)) rfl ?_
    exact X_iret C (D (59, .ireturn, 1) (mg 21 rfl)) ⟨congrArg (fun z => some (Value.int z)) (deC_2 (by assumption)), rfl, rfl⟩
  · refine X_swIn (tgt := 60) C (D (17, .tableswitch 71 0 4 #[35, 37, 40, 43, 58], 35) (mg 15 rfl)) (3) (by rw [q1]; decide) (by decide) (by decide) rfl (by decide) ?_
    refine X_iload_n C 2 (D (60, .iload_n 2, 1) (mg 22 rfl)) rfl rfl ?_
    refine X_iconst (v := nI (1)) C (D (61, .iconst 1, 1) (mg 23 rfl)) (by decide) ?_
    refine X_icmp_gt (tgt := 72) C (D (62, .if_icmp .gt 10, 3) (mg 24 rfl)) (by decide) (fun q2 => ?_) (fun q2 => ?_)
    · skip
      refine X_iload C (D (72, .iload 4, 2) (mg 29 rfl)) rfl ?_
      exact X_iret C (D (74, .ireturn, 1) (mg 30 rfl)) ⟨congrArg (fun z => some (Value.int z)) ((deC_3 (by assumption)).trans (if_pos (by assumption))), rfl, rfl⟩
    · skip
      refine X_iload C (D (65, .iload 4, 2) (mg 25 rfl)) rfl ?_
      refine X_iconst (v := nI (3)) C (D (67, .iconst 3, 1) (mg 26 rfl)) (by decide) ?_
      refine X_iadd C (D (68, .iadd, 1) (mg 27 rfl)) ?_
      refine X_goto (tgt := 74) C (D (69, .goto 5, 3) (mg 28 rfl)) (by decide) ?_
      exact X_iret C (D (74, .ireturn, 1) (mg 30 rfl)) ⟨congrArg (fun z => some (Value.int z)) ((deC_3 (by assumption)).trans (if_neg (by assumption))), rfl, rfl⟩
  · refine X_swIn (tgt := 75) C (D (17, .tableswitch 71 0 4 #[35, 37, 40, 43, 58], 35) (mg 15 rfl)) (4) (by rw [q1]; decide) (by decide) (by decide) rfl (by decide) ?_
    refine X_iload C (D (75, .iload 5, 2) (mg 31 rfl)) rfl ?_
    refine X_iconst (v := nI (1)) C (D (77, .iconst 1, 1) (mg 32 rfl)) (by decide) ?_
    refine X_icmp_le (tgt := 85) C (D (78, .if_icmp .le 7, 3) (mg 33 rfl)) (by decide) (fun q3 => ?_) (fun q3 => ?_)
    · skip
      refine X_iload C (D (85, .iload 5, 2) (mg 36 rfl)) rfl ?_
      exact X_iret C (D (87, .ireturn, 1) (mg 37 rfl)) ⟨congrArg (fun z => some (Value.int z)) ((deC_4 (by assumption)).trans (if_pos (by assumption))), rfl, rfl⟩
    · skip
      refine X_iconst (v := nI (1)) C (D (81, .iconst 1, 1) (mg 34 rfl)) (by decide) ?_
      refine X_goto (tgt := 87) C (D (82, .goto 5, 3) (mg 35 rfl)) (by decide) ?_
      exact X_iret C (D (87, .ireturn, 1) (mg 37 rfl)) ⟨congrArg (fun z => some (Value.int z)) ((deC_4 (by assumption)).trans (if_neg (by assumption))), rfl, rfl⟩
  · refine X_swOut (tgt := 88) C (D (17, .tableswitch 71 0 4 #[35, 37, 40, 43, 58], 35) (mg 15 rfl)) q1 (by decide) ?_
    refine X_iload_n C 3 (D (88, .iload_n 3, 1) (mg 38 rfl)) rfl rfl ?_
    refine X_iload_n C 1 (D (89, .iload_n 1, 1) (mg 39 rfl)) rfl rfl ?_
    refine X_icmp_ge (tgt := 97) C (D (90, .if_icmp .ge 7, 3) (mg 40 rfl)) (by decide) (fun q4 => ?_) (fun q4 => ?_)
    · skip
      refine X_iload_n C 3 (D (97, .iload_n 3, 1) (mg 43 rfl)) rfl rfl ?_
      refine X_iload_n C 1 (D (98, .iload_n 1, 1) (mg 44 rfl)) rfl rfl ?_
      refine X_isub C (D (99, .isub, 1) (mg 45 rfl)) ?_
      exact X_iret C (D (100, .ireturn, 1) (mg 46 rfl)) ⟨congrArg (fun z => some (Value.int z)) ((deC_o (by assumption)).trans (if_pos (by assumption))), rfl, rfl⟩
    · skip
      refine X_iconst (v := nI (0)) C (D (93, .iconst 0, 1) (mg 41 rfl)) (by decide) ?_
      refine X_goto (tgt := 100) C (D (94, .goto 6, 3) (mg 42 rfl)) (by decide) ?_
      exact X_iret C (D (100, .ireturn, 1) (mg 46 rfl)) ⟨congrArg (fun z => some (Value.int z)) ((deC_o (by assumption)).trans (if_neg (by assumption))), rfl, rfl⟩
def daC (k d s : Int32) : Int32 := if nI 10 ≤ d + deC k d s then nI 9 else d + deC k d s
set_option maxHeartbeats 4000000 in
set_option maxRecDepth 100000 in
theorem ct_X0_depthAfter {l : Launch} {w : Kw} (hw : wOk w) (kd d s : Int32) (h : xI) (g : xJ)  : Ct l w yX0_depthAfter cX0_depthAfter 4 (some .int) 1 25 [.int (kd), .int (d), .int (s)] h g (px (some (.int (daC kd d s))) h g) := by
  refine Ct_of (ls := [some (.int (kd)), some (.int (d)), some (.int (s)), none]) (by decide) hw (Nat.le_of_ble_eq_true rfl) rfl (fun k hkl C => ?_)
  have C : Cx k w cX0_depthAfter RX0 4 (some .int) 1 25 := C
  have D := dtX0_depthAfter
  subst hkl
  refine X_iload_n C 1 (D (0, .iload_n 1, 1) (mg 0 rfl)) rfl rfl ?_
  refine X_iload_n C 0 (D (1, .iload_n 0, 1) (mg 1 rfl)) rfl rfl ?_
  refine X_iload_n C 1 (D (2, .iload_n 1, 1) (mg 2 rfl)) rfl rfl ?_
  refine X_iload_n C 2 (D (3, .iload_n 2, 1) (mg 3 rfl)) rfl rfl ?_
  refine X_cS (As := [.int (kd), .int (d), .int (s)]) (st := [.int (d)]) C (post := _) (ct_X0_dragsBy hw (kd) (d) (s) h g) kX0_9 (by decide) (by decide) rfl rfl (Nat.le_of_ble_eq_true rfl) (D (4, .invokestatic 9, 3) (mg 4 rfl)) rfl (fun v3 H1 G2 hv3 => ?_)
  obtain ⟨rfl, rfl, rfl⟩ := hv3
  show X k w _ 7 [some (.int (kd)), some (.int (d)), some (.int (s)), none] [.int (deC (kd) (d) (s)), .int (d)] h g
  refine X_iadd C (D (7, .iadd, 1) (mg 5 rfl)) ?_
  refine X_istore_n (ls' := [some (.int (kd)), some (.int (d)), some (.int (s)), some (.int (d + (deC (kd) (d) (s))))]) C 3 (D (8, .istore_n 3, 1) (mg 6 rfl)) rfl (Nat.le_of_ble_eq_true rfl) rfl ?_
  refine X_iload_n C 3 (D (9, .iload_n 3, 1) (mg 7 rfl)) rfl rfl ?_
  refine X_bipush (v := nI (10)) C (D (10, .bipush 10, 2) (mg 8 rfl)) (by decide) ?_
  refine X_icmp_ge (tgt := 19) C (D (12, .if_icmp .ge 7, 3) (mg 9 rfl)) (by decide) (fun q4 => ?_) (fun q4 => ?_)
  · skip
    refine X_bipush (v := nI (9)) C (D (19, .bipush 9, 2) (mg 12 rfl)) (by decide) ?_
    exact X_iret C (D (21, .ireturn, 1) (mg 13 rfl)) ⟨congrArg (fun z => some (Value.int z)) (if_pos (by assumption)), rfl, rfl⟩
  · skip
    refine X_iload_n C 3 (D (15, .iload_n 3, 1) (mg 10 rfl)) rfl rfl ?_
    refine X_goto (tgt := 21) C (D (16, .goto 5, 3) (mg 11 rfl)) (by decide) ?_
    exact X_iret C (D (21, .ireturn, 1) (mg 13 rfl)) ⟨congrArg (fun z => some (Value.int z)) (if_neg (by assumption)), rfl, rfl⟩
set_option maxHeartbeats 4000000 in
set_option maxRecDepth 100000 in
theorem ct_X3_verse {l : Launch} {w : Kw} (hw : wOk w) (x d : Int32) (h : xI) (g : xJ)  : Ct l w yX3_verse cX3_verse 2 (some .int) 0 0 [.int (x), .int (d)] h g (px (some (.int (hVer d x))) h g) := by
  refine Ct_of (ls := [some (.int (x)), some (.int (d))]) (by decide) hw (Nat.le_of_ble_eq_true rfl) rfl (fun k hkl C => ?_)
  have C : Cx k w cX3_verse RX3 2 (some .int) 0 0 := C
  have D := dtX3_verse
  subst hkl
  refine X_iload_n C 0 (D (0, .iload_n 0, 1) (mg 0 rfl)) rfl rfl ?_
  refine X_iconst (v := nI (1)) C (D (1, .iconst 1, 1) (mg 1 rfl)) (by decide) ?_
  refine X_icmp_ge (tgt := 7) C (D (2, .if_icmp .ge 5, 3) (mg 2 rfl)) (by decide) (fun q1 => ?_) (fun q1 => ?_)
  · skip
    refine X_iload_n C 0 (D (7, .iload_n 0, 1) (mg 5 rfl)) rfl rfl ?_
    refine X_iload_n C 1 (D (8, .iload_n 1, 1) (mg 6 rfl)) rfl rfl ?_
    refine X_isub C (D (9, .isub, 1) (mg 7 rfl)) ?_
    refine X_iconst (v := nI (1)) C (D (10, .iconst 1, 1) (mg 8 rfl)) (by decide) ?_
    refine X_icmp_ge (tgt := 18) C (D (11, .if_icmp .ge 7, 3) (mg 9 rfl)) (by decide) (fun q2 => ?_) (fun q2 => ?_)
    · skip
      refine X_iload_n C 0 (D (18, .iload_n 0, 1) (mg 12 rfl)) rfl rfl ?_
      refine X_iload_n C 1 (D (19, .iload_n 1, 1) (mg 13 rfl)) rfl rfl ?_
      refine X_isub C (D (20, .isub, 1) (mg 14 rfl)) ?_
      exact X_iret C (D (21, .ireturn, 1) (mg 15 rfl)) ⟨congrArg (fun z => some (Value.int z)) ((if_pos (by assumption)).trans (if_pos (by assumption))), rfl, rfl⟩
    · skip
      refine X_iconst (v := nI (1)) C (D (14, .iconst 1, 1) (mg 10 rfl)) (by decide) ?_
      refine X_goto (tgt := 21) C (D (15, .goto 6, 3) (mg 11 rfl)) (by decide) ?_
      exact X_iret C (D (21, .ireturn, 1) (mg 15 rfl)) ⟨congrArg (fun z => some (Value.int z)) ((if_pos (by assumption)).trans (if_neg (by assumption))), rfl, rfl⟩
  · skip
    refine X_iconst (v := nI (0)) C (D (5, .iconst 0, 1) (mg 3 rfl)) (by decide) ?_
    exact X_iret C (D (6, .ireturn, 1) (mg 4 rfl)) ⟨congrArg (fun z => some (Value.int z)) (if_neg (by assumption)), rfl, rfl⟩
/-- how high a KIND stands: the class's -/
def hiC (k d a : Int32) : Int32 := if k = 0 then hSer d a else if k = 1 then hGr (hSer d a) else if k = 2 then hHot d (hSer d a) else if k = 3 then hLaud a (hHot d (hSer d a)) else if k = 4 then hSer d a / nI 2 else hVer d (hGr (hSer d a))
theorem hiC_0 {k d a : Int32} (h : k = 0) : hiC k d a = hSer d a := by subst h; rfl
theorem hiC_1 {k d a : Int32} (h : k = 1) : hiC k d a = hGr (hSer d a) := by subst h; rfl
theorem hiC_2 {k d a : Int32} (h : k = 2) : hiC k d a = hHot d (hSer d a) := by subst h; rfl
theorem hiC_3 {k d a : Int32} (h : k = 3) : hiC k d a = hLaud a (hHot d (hSer d a)) := by subst h; rfl
theorem hiC_4 {k d a : Int32} (h : k = 4) : hiC k d a = hSer d a / nI 2 := by subst h; rfl
theorem hiC_o {k d a : Int32} (h : k.toInt < 0 ∨ 4 < k.toInt) : hiC k d a = hVer d (hGr (hSer d a)) := by
  unfold hiC
  rw [if_neg (ne_o h (by decide)), if_neg (ne_o h (by decide)), if_neg (ne_o h (by decide)), if_neg (ne_o h (by decide)), if_neg (ne_o h (by decide))]
set_option maxHeartbeats 4000000 in
set_option maxRecDepth 100000 in
theorem ct_X3_stands {l : Launch} {w : Kw} (hw : wOk w) (kd d a : Int32) (h : xI) (g : xJ)  : Ct l w yX3_stands cX3_stands 6 (some .int) 1 21 [.int (kd), .int (d), .int (a)] h g (px (some (.int (hiC kd d a))) h g) := by
  refine Ct_of (ls := [some (.int (kd)), some (.int (d)), some (.int (a)), none, none, none]) (by decide) hw (Nat.le_of_ble_eq_true rfl) rfl (fun k hkl C => ?_)
  have C : Cx k w cX3_stands RX3 6 (some .int) 1 21 := C
  have D := dtX3_stands
  subst hkl
  have jn50 : X k w (Zq k w (px (some (.int (hiC kd d a))) h g)) 50 [some (.int (kd)), some (.int (d)), some (.int (a)), some (.int (hSer d a)), some (.int (hGr (hSer d a))), some (.int (hHot d (hSer d a)))] [] h g := by
    refine X_iload_n C 0 (D (50, .iload_n 0, 1) (mg 30 rfl)) rfl rfl ?_
    rcases sw_0_4 (kd) with q1 | q1 | q1 | q1 | q1 | q1
    · refine X_swIn (tgt := 84) C (D (51, .tableswitch 58 0 4 #[33, 35, 38, 41, 54], 33) (mg 31 rfl)) (0) (by rw [q1]; decide) (by decide) (by decide) rfl (by decide) ?_
      refine X_iload_n C 3 (D (84, .iload_n 3, 1) (mg 32 rfl)) rfl rfl ?_
      exact X_iret C (D (85, .ireturn, 1) (mg 33 rfl)) ⟨congrArg (fun z => some (Value.int z)) (hiC_0 (by assumption)), rfl, rfl⟩
    · refine X_swIn (tgt := 86) C (D (51, .tableswitch 58 0 4 #[33, 35, 38, 41, 54], 33) (mg 31 rfl)) (1) (by rw [q1]; decide) (by decide) (by decide) rfl (by decide) ?_
      refine X_iload C (D (86, .iload 4, 2) (mg 34 rfl)) rfl ?_
      exact X_iret C (D (88, .ireturn, 1) (mg 35 rfl)) ⟨congrArg (fun z => some (Value.int z)) (hiC_1 (by assumption)), rfl, rfl⟩
    · refine X_swIn (tgt := 89) C (D (51, .tableswitch 58 0 4 #[33, 35, 38, 41, 54], 33) (mg 31 rfl)) (2) (by rw [q1]; decide) (by decide) (by decide) rfl (by decide) ?_
      refine X_iload C (D (89, .iload 5, 2) (mg 36 rfl)) rfl ?_
      exact X_iret C (D (91, .ireturn, 1) (mg 37 rfl)) ⟨congrArg (fun z => some (Value.int z)) (hiC_2 (by assumption)), rfl, rfl⟩
    · refine X_swIn (tgt := 92) C (D (51, .tableswitch 58 0 4 #[33, 35, 38, 41, 54], 33) (mg 31 rfl)) (3) (by rw [q1]; decide) (by decide) (by decide) rfl (by decide) ?_
      refine X_iload_n C 2 (D (92, .iload_n 2, 1) (mg 38 rfl)) rfl rfl ?_
      refine X_bipush (v := nI (6)) C (D (93, .bipush 6, 2) (mg 39 rfl)) (by decide) ?_
      refine X_icmp_ge (tgt := 102) C (D (95, .if_icmp .ge 7, 3) (mg 40 rfl)) (by decide) (fun q2 => ?_) (fun q2 => ?_)
      · skip
        refine X_iload C (D (102, .iload 5, 2) (mg 43 rfl)) rfl ?_
        exact X_iret C (D (104, .ireturn, 1) (mg 44 rfl)) ⟨congrArg (fun z => some (Value.int z)) ((hiC_3 (by assumption)).trans (if_pos (by assumption))), rfl, rfl⟩
      · skip
        refine X_iconst (v := nI (0)) C (D (98, .iconst 0, 1) (mg 41 rfl)) (by decide) ?_
        refine X_goto (tgt := 104) C (D (99, .goto 5, 3) (mg 42 rfl)) (by decide) ?_
        exact X_iret C (D (104, .ireturn, 1) (mg 44 rfl)) ⟨congrArg (fun z => some (Value.int z)) ((hiC_3 (by assumption)).trans (if_neg (by assumption))), rfl, rfl⟩
    · refine X_swIn (tgt := 105) C (D (51, .tableswitch 58 0 4 #[33, 35, 38, 41, 54], 33) (mg 31 rfl)) (4) (by rw [q1]; decide) (by decide) (by decide) rfl (by decide) ?_
      refine X_iload_n C 3 (D (105, .iload_n 3, 1) (mg 45 rfl)) rfl rfl ?_
      refine X_iconst (v := nI (2)) C (D (106, .iconst 2, 1) (mg 46 rfl)) (by decide) ?_
      refine X_idiv C (D (107, .idiv, 1) (mg 47 rfl)) (by decide) ?_
      exact X_iret C (D (108, .ireturn, 1) (mg 48 rfl)) ⟨congrArg (fun z => some (Value.int z)) (hiC_4 (by assumption)), rfl, rfl⟩
    · refine X_swOut (tgt := 109) C (D (51, .tableswitch 58 0 4 #[33, 35, 38, 41, 54], 33) (mg 31 rfl)) q1 (by decide) ?_
      refine X_iload C (D (109, .iload 4, 2) (mg 49 rfl)) rfl ?_
      refine X_iload_n C 1 (D (111, .iload_n 1, 1) (mg 50 rfl)) rfl rfl ?_
      refine X_cS (As := [.int (hGr (hSer d a)), .int (d)]) (st := []) C (post := _) (ct_X3_verse hw (hGr (hSer d a)) (d) h g) kX3_7 (by decide) (by decide) rfl rfl (Nat.le_of_ble_eq_true rfl) (D (112, .invokestatic 7, 3) (mg 51 rfl)) rfl (fun v5 H3 G4 hv5 => ?_)
      obtain ⟨rfl, rfl, rfl⟩ := hv5
      show X k w _ 115 [some (.int (kd)), some (.int (d)), some (.int (a)), some (.int (hSer d a)), some (.int (hGr (hSer d a))), some (.int (hHot d (hSer d a)))] [.int (hVer (d) (hGr (hSer d a)))] h g
      exact X_iret C (D (115, .ireturn, 1) (mg 52 rfl)) ⟨congrArg (fun z => some (Value.int z)) (hiC_o (by assumption)), rfl, rfl⟩
  have jn48 : X k w (Zq k w (px (some (.int (hiC kd d a))) h g)) 48 [some (.int (kd)), some (.int (d)), some (.int (a)), some (.int (hSer d a)), some (.int (hGr (hSer d a))), none] [.int (hHot d (hSer d a))] h g := by
    refine X_istore (ls' := [some (.int (kd)), some (.int (d)), some (.int (a)), some (.int (hSer d a)), some (.int (hGr (hSer d a))), some (.int (hHot d (hSer d a)))]) C (D (48, .istore 5, 2) (mg 29 rfl)) (Nat.le_of_ble_eq_true rfl) rfl ?_
    refine X_eq (ls' := [some (.int (kd)), some (.int (d)), some (.int (a)), some (.int (hSer d a)), some (.int (hGr (hSer d a))), some (.int (hHot d (hSer d a)))]) (st' := []) (h' := h) (g' := g) rfl rfl rfl rfl ?_
    exact jn50  
  have jn34 : X k w (Zq k w (px (some (.int (hiC kd d a))) h g)) 34 [some (.int (kd)), some (.int (d)), some (.int (a)), some (.int (hSer d a)), none, none] [.int (hGr (hSer d a))] h g := by
    refine X_istore (ls' := [some (.int (kd)), some (.int (d)), some (.int (a)), some (.int (hSer d a)), some (.int (hGr (hSer d a))), none]) C (D (34, .istore 4, 2) (mg 20 rfl)) (Nat.le_of_ble_eq_true rfl) rfl ?_
    refine X_iload_n C 1 (D (36, .iload_n 1, 1) (mg 21 rfl)) rfl rfl ?_
    refine X_iconst (v := nI (4)) C (D (37, .iconst 4, 1) (mg 22 rfl)) (by decide) ?_
    refine X_icmp_lt (tgt := 47) C (D (38, .if_icmp .lt 9, 3) (mg 23 rfl)) (by decide) (fun q6 => ?_) (fun q6 => ?_)
    · skip
      refine X_iload_n C 3 (D (47, .iload_n 3, 1) (mg 28 rfl)) rfl rfl ?_
      refine X_eq (ls' := [some (.int (kd)), some (.int (d)), some (.int (a)), some (.int (hSer d a)), some (.int (hGr (hSer d a))), none]) (st' := [.int (hHot d (hSer d a))]) (h' := h) (g' := g) rfl (congrArg (fun z => [Value.int z]) (Eq.symm (a := hHot d (hSer d a)) (if_pos (by assumption)))) rfl rfl ?_
      exact jn48  
    · skip
      refine X_iconst (v := nI (2)) C (D (41, .iconst 2, 1) (mg 24 rfl)) (by decide) ?_
      refine X_iload_n C 3 (D (42, .iload_n 3, 1) (mg 25 rfl)) rfl rfl ?_
      refine X_imul C (D (43, .imul, 1) (mg 26 rfl)) ?_
      refine X_goto (tgt := 48) C (D (44, .goto 4, 3) (mg 27 rfl)) (by decide) ?_
      refine X_eq (ls' := [some (.int (kd)), some (.int (d)), some (.int (a)), some (.int (hSer d a)), some (.int (hGr (hSer d a))), none]) (st' := [.int (hHot d (hSer d a))]) (h' := h) (g' := g) rfl (congrArg (fun z => [Value.int z]) (Eq.symm (a := hHot d (hSer d a)) (if_neg (by assumption)))) rfl rfl ?_
      exact jn48  
  have jn21 : X k w (Zq k w (px (some (.int (hiC kd d a))) h g)) 21 [some (.int (kd)), some (.int (d)), some (.int (a)), none, none, none] [.int (hSer d a)] h g := by
    refine X_istore_n (ls' := [some (.int (kd)), some (.int (d)), some (.int (a)), some (.int (hSer d a)), none, none]) C 3 (D (21, .istore_n 3, 1) (mg 11 rfl)) rfl (Nat.le_of_ble_eq_true rfl) rfl ?_
    refine X_iload_n C 3 (D (22, .iload_n 3, 1) (mg 12 rfl)) rfl rfl ?_
    refine X_iconst (v := nI (1)) C (D (23, .iconst 1, 1) (mg 13 rfl)) (by decide) ?_
    refine X_icmp_lt (tgt := 33) C (D (24, .if_icmp .lt 9, 3) (mg 14 rfl)) (by decide) (fun q7 => ?_) (fun q7 => ?_)
    · skip
      refine X_iconst (v := nI (0)) C (D (33, .iconst 0, 1) (mg 19 rfl)) (by decide) ?_
      refine X_eq (ls' := [some (.int (kd)), some (.int (d)), some (.int (a)), some (.int (hSer d a)), none, none]) (st' := [.int (hGr (hSer d a))]) (h' := h) (g' := g) rfl (congrArg (fun z => [Value.int z]) (Eq.symm (a := hGr (hSer d a)) (if_pos (by assumption)))) rfl rfl ?_
      exact jn34  
    · skip
      refine X_iload_n C 3 (D (27, .iload_n 3, 1) (mg 15 rfl)) rfl rfl ?_
      refine X_iconst (v := nI (2)) C (D (28, .iconst 2, 1) (mg 16 rfl)) (by decide) ?_
      refine X_iadd C (D (29, .iadd, 1) (mg 17 rfl)) ?_
      refine X_goto (tgt := 34) C (D (30, .goto 4, 3) (mg 18 rfl)) (by decide) ?_
      refine X_eq (ls' := [some (.int (kd)), some (.int (d)), some (.int (a)), some (.int (hSer d a)), none, none]) (st' := [.int (hGr (hSer d a))]) (h' := h) (g' := g) rfl (congrArg (fun z => [Value.int z]) (Eq.symm (a := hGr (hSer d a)) (if_neg (by assumption)))) rfl rfl ?_
      exact jn34  
  refine X_iload_n C 1 (D (0, .iload_n 1, 1) (mg 0 rfl)) rfl rfl ?_
  refine X_iconst (v := nI (1)) C (D (1, .iconst 1, 1) (mg 1 rfl)) (by decide) ?_
  refine X_icmp_ge (tgt := 9) C (D (2, .if_icmp .ge 7, 3) (mg 2 rfl)) (by decide) (fun q8 => ?_) (fun q8 => ?_)
  · skip
    refine X_iload_n C 2 (D (9, .iload_n 2, 1) (mg 5 rfl)) rfl rfl ?_
    refine X_bipush (v := nI (9)) C (D (10, .bipush 9, 2) (mg 6 rfl)) (by decide) ?_
    refine X_icmp_le (tgt := 20) C (D (12, .if_icmp .le 8, 3) (mg 7 rfl)) (by decide) (fun q9 => ?_) (fun q9 => ?_)
    · skip
      refine X_iload_n C 2 (D (20, .iload_n 2, 1) (mg 10 rfl)) rfl rfl ?_
      refine X_eq (ls' := [some (.int (kd)), some (.int (d)), some (.int (a)), none, none, none]) (st' := [.int (hSer d a)]) (h' := h) (g' := g) rfl (congrArg (fun z => [Value.int z]) (Eq.symm (a := hSer d a) ((if_pos (by assumption)).trans (if_pos (by assumption))))) rfl rfl ?_
      exact jn21  
    · skip
      refine X_bipush (v := nI (9)) C (D (15, .bipush 9, 2) (mg 8 rfl)) (by decide) ?_
      refine X_goto (tgt := 21) C (D (17, .goto 4, 3) (mg 9 rfl)) (by decide) ?_
      refine X_eq (ls' := [some (.int (kd)), some (.int (d)), some (.int (a)), none, none, none]) (st' := [.int (hSer d a)]) (h' := h) (g' := g) rfl (congrArg (fun z => [Value.int z]) (Eq.symm (a := hSer d a) ((if_pos (by assumption)).trans (if_neg (by assumption))))) rfl rfl ?_
      exact jn21  
  · skip
    refine X_iconst (v := nI (0)) C (D (5, .iconst 0, 1) (mg 3 rfl)) (by decide) ?_
    refine X_goto (tgt := 21) C (D (6, .goto 15, 3) (mg 4 rfl)) (by decide) ?_
    refine X_eq (ls' := [some (.int (kd)), some (.int (d)), some (.int (a)), none, none, none]) (st' := [.int (hSer d a)]) (h' := h) (g' := g) rfl (congrArg (fun z => [Value.int z]) (Eq.symm (a := hSer d a) (if_neg (by assumption)))) rfl rfl ?_
    exact jn21  
def shN (w : Kw) (n : Nat) : Prop := n + 2 < wN w ∧ wS w n = .inl (0, [n + 1 + 2, n + 2 + 2, 0, 0, 0]) ∧ wS w (n + 1) = .inr (.inl (0, 25)) ∧ wS w (n + 2) = .inr (.inl (0, 25))
def cK (v : Int32) : Int32 := if ¬ v = (-1 : Int32) then v / nI 1000 else (-1 : Int32)
def cD (v : Int32) : Int32 := if ¬ v = (-1 : Int32) then v / nI 100 - v / nI 100 / nI 10 * nI 10 else (-1 : Int32)
def cA (v : Int32) : Int32 := if ¬ v = (-1 : Int32) then v - v / nI 100 * nI 100 else (-1 : Int32)
def cbH (h : xI) (n : Nat) (kd c : Int32) : xI := u2 (u2 (u2 (mp (mp h (n + 1) 0 25 (fun _ => nI 0)) (n + 2) 0 25 (fun _ => (-1 : Int32))) n 2 kd) n 3 c) n 4 (nI 0)
def cc0 (h : xI) (n o : Nat) : xI := cpS (cpS h (o + 1) 0 (n + 1) 0 25) (o + 2) 0 (n + 2) 0 25
def cc1 (h : xI) (n o : Nat) : xI := u2 (cc0 h n o) n 2 (cc0 h n o o 2)
def cc2 (h : xI) (n o : Nat) : xI := u2 (cc1 h n o) n 3 (cc1 h n o o 3)
def ccH (h : xI) (n o : Nat) : xI := u2 (cc2 h n o) n 4 (cc2 h n o o 4)
/-- what a STEP, a WEEK make of what lies -/
def csV (kd s v : Int32) : Int32 := v + nI 100 * (daC kd (cD v) s - cD v)
def csH (h : xI) (n j : Nat) : xI := if ¬ u2 h n 3 (nI j) (n + 2) j = (-1 : Int32) then u2 (u2 h n 3 (nI j)) (n + 2) j (csV (u2 h n 3 (nI j) n 2) (u2 h n 3 (nI j) (n + 1) j) (u2 h n 3 (nI j) (n + 2) j)) else u2 h n 3 (nI j)
def cwk (v : Int32) : Int32 := if cD v = 0 then (-1 : Int32) else if ¬ v = (-1 : Int32) then (if nI 99 ≤ cA v then v else v + nI 1) else v
def cwH (h : xI) (n : Nat) : xI := u2 (mp h (n + 2) 0 25 cwk) n 4 (mp h (n + 2) 0 25 cwk n 4 + nI 1)
set_option maxHeartbeats 4000000 in
set_option maxRecDepth 100000 in
theorem ct_X1_liesIn {l : Launch} {w : Kw} (hw : wOk w) {n : Nat} (hN : shN w n) {j : Nat} (hj : j < 25) (h : xI) (g : xJ)  : Ct l w yX1_liesIn cX1_liesIn 2 (some .boolean) 0 0 [.ref (wA w (n)), .int (nI (j))] h g (px (some (.int (if ¬ h (n + 2) j = (-1 : Int32) then 1 else 0))) h g) := by
  refine Ct_of (ls := [some (.ref (wA w (n))), some (.int (nI (j)))]) (by decide) hw (Nat.le_of_ble_eq_true rfl) rfl (fun k hkl C => ?_)
  have C : Cx k w cX1_liesIn RX1 2 (some .boolean) 0 0 := C
  have D := dtX1_liesIn
  subst hkl
  have hN0 := hN
  obtain ⟨hn, hsn, hs1, hs2⟩ := hN
  have hN := hN0
  refine X_aload_n C 0 (D (0, .aload_n 0, 1) (mg 0 rfl)) rfl rfl ?_
  refine X_get (v := .ref (wA w (n + 2))) C (n) 1 (by omega) hsn rfl rfl (by decide) inX1 fX1_15 rfl (D (1, .getfield 15, 3) (mg 1 rfl)) rfl ?_
  refine X_iload_n C 1 (D (4, .iload_n 1, 1) (mg 2 rfl)) rfl rfl ?_
  refine X_iald (v := h (n + 2) (j)) C (n + 2) (by omega) hs2 (vp_in_nI (by omega) (by omega)) (D (5, .iaload, 1) (mg 3 rfl)) (by rw [nI_clamp (by omega)]) ?_
  refine X_iconst (v := (-1 : Int32)) C (D (6, .iconst (-1), 1) (mg 4 rfl)) (by decide) ?_
  refine X_icmp_eq (tgt := 14) C (D (7, .if_icmp .eq 7, 3) (mg 5 rfl)) (by decide) (fun q1 => ?_) (fun q1 => ?_)
  · skip
    refine X_iconst (v := nI (0)) C (D (14, .iconst 0, 1) (mg 8 rfl)) (by decide) ?_
    exact X_zret C (D (15, .ireturn, 1) (mg 9 rfl)) rfl ⟨pf (fun z => z ‹_›), rfl, rfl⟩
  · skip
    refine X_iconst (v := nI (1)) C (D (10, .iconst 1, 1) (mg 6 rfl)) (by decide) ?_
    refine X_goto (tgt := 15) C (D (11, .goto 4, 3) (mg 7 rfl)) (by decide) ?_
    exact X_zret C (D (15, .ireturn, 1) (mg 9 rfl)) rfl ⟨pt ‹_›, rfl, rfl⟩
set_option maxHeartbeats 4000000 in
set_option maxRecDepth 100000 in
theorem ct_X1_kindIn {l : Launch} {w : Kw} (hw : wOk w) {n : Nat} (hN : shN w n) {j : Nat} (hj : j < 25) (h : xI) (g : xJ)  : Ct l w yX1_kindIn cX1_kindIn 2 (some .int) 1 21 [.ref (wA w (n)), .int (nI (j))] h g (px (some (.int (cK (h (n + 2) j)))) h g) := by
  refine Ct_of (ls := [some (.ref (wA w (n))), some (.int (nI (j)))]) (by decide) hw (Nat.le_of_ble_eq_true rfl) rfl (fun k hkl C => ?_)
  have C : Cx k w cX1_kindIn RX1 2 (some .int) 1 21 := C
  have D := dtX1_kindIn
  subst hkl
  have hN0 := hN
  obtain ⟨hn, hsn, hs1, hs2⟩ := hN
  have hN := hN0
  refine X_aload_n C 0 (D (0, .aload_n 0, 1) (mg 0 rfl)) rfl rfl ?_
  refine X_iload_n C 1 (D (1, .iload_n 1, 1) (mg 1 rfl)) rfl rfl ?_
  refine X_cV (As := [.int (nI (j))]) (st := []) C (post := _) (n) (by omega) hsn rfl (ct_X1_liesIn hw (n := n) hN (j := j) (by omega) h g) kX1_40 (by decide) (by decide) rfl rfl (Nat.le_of_ble_eq_true rfl) (D (2, .invokevirtual 40, 3) (mg 2 rfl)) rfl (fun v3 H1 G2 hv3 => ?_)
  obtain ⟨rfl, rfl, rfl⟩ := hv3
  show X k w _ 5 [some (.ref (wA w (n))), some (.int (nI (j)))] [.int (if ¬ h (n + 2) (j) = (-1 : Int32) then 1 else 0)] h g
  refine X_if_eq (tgt := 21) C (D (5, .ifCond .eq 16, 3) (mg 3 rfl)) (by decide) (fun q4 => ?_) (fun q4 => ?_)
  · skip
    have q4 : ¬ (¬ h (n + 2) (j) = (-1 : Int32)) := bz0.mp q4
    refine X_iconst (v := (-1 : Int32)) C (D (21, .iconst (-1), 1) (mg 11 rfl)) (by decide) ?_
    exact X_iret C (D (22, .ireturn, 1) (mg 12 rfl)) ⟨congrArg (fun z => some (Value.int z)) (if_neg (by assumption)), rfl, rfl⟩
  · skip
    have q4 : (¬ h (n + 2) (j) = (-1 : Int32)) := bz1.mp q4
    refine X_aload_n C 0 (D (8, .aload_n 0, 1) (mg 4 rfl)) rfl rfl ?_
    refine X_get (v := .ref (wA w (n + 2))) C (n) 1 (by omega) hsn rfl rfl (by decide) inX1 fX1_15 rfl (D (9, .getfield 15, 3) (mg 5 rfl)) rfl ?_
    refine X_iload_n C 1 (D (12, .iload_n 1, 1) (mg 6 rfl)) rfl rfl ?_
    refine X_iald (v := h (n + 2) (j)) C (n + 2) (by omega) hs2 (vp_in_nI (by omega) (by omega)) (D (13, .iaload, 1) (mg 7 rfl)) (by rw [nI_clamp (by omega)]) ?_
    refine X_sipush (v := nI (1000)) C (D (14, .sipush 1000, 3) (mg 8 rfl)) (by decide) ?_
    refine X_idiv C (D (17, .idiv, 1) (mg 9 rfl)) (by decide) ?_
    refine X_goto (tgt := 22) C (D (18, .goto 4, 3) (mg 10 rfl)) (by decide) ?_
    exact X_iret C (D (22, .ireturn, 1) (mg 12 rfl)) ⟨congrArg (fun z => some (Value.int z)) (if_pos (by assumption)), rfl, rfl⟩
set_option maxHeartbeats 4000000 in
set_option maxRecDepth 100000 in
theorem ct_X1_depthIn {l : Launch} {w : Kw} (hw : wOk w) {n : Nat} (hN : shN w n) {j : Nat} (hj : j < 25) (h : xI) (g : xJ)  : Ct l w yX1_depthIn cX1_depthIn 2 (some .int) 1 21 [.ref (wA w (n)), .int (nI (j))] h g (px (some (.int (cD (h (n + 2) j)))) h g) := by
  refine Ct_of (ls := [some (.ref (wA w (n))), some (.int (nI (j)))]) (by decide) hw (Nat.le_of_ble_eq_true rfl) rfl (fun k hkl C => ?_)
  have C : Cx k w cX1_depthIn RX1 2 (some .int) 1 21 := C
  have D := dtX1_depthIn
  subst hkl
  have hN0 := hN
  obtain ⟨hn, hsn, hs1, hs2⟩ := hN
  have hN := hN0
  refine X_aload_n C 0 (D (0, .aload_n 0, 1) (mg 0 rfl)) rfl rfl ?_
  refine X_iload_n C 1 (D (1, .iload_n 1, 1) (mg 1 rfl)) rfl rfl ?_
  refine X_cV (As := [.int (nI (j))]) (st := []) C (post := _) (n) (by omega) hsn rfl (ct_X1_liesIn hw (n := n) hN (j := j) (by omega) h g) kX1_40 (by decide) (by decide) rfl rfl (Nat.le_of_ble_eq_true rfl) (D (2, .invokevirtual 40, 3) (mg 2 rfl)) rfl (fun v3 H1 G2 hv3 => ?_)
  obtain ⟨rfl, rfl, rfl⟩ := hv3
  show X k w _ 5 [some (.ref (wA w (n))), some (.int (nI (j)))] [.int (if ¬ h (n + 2) (j) = (-1 : Int32) then 1 else 0)] h g
  refine X_if_eq (tgt := 23) C (D (5, .ifCond .eq 18, 3) (mg 3 rfl)) (by decide) (fun q4 => ?_) (fun q4 => ?_)
  · skip
    have q4 : ¬ (¬ h (n + 2) (j) = (-1 : Int32)) := bz0.mp q4
    refine X_iconst (v := (-1 : Int32)) C (D (23, .iconst (-1), 1) (mg 13 rfl)) (by decide) ?_
    exact X_iret C (D (24, .ireturn, 1) (mg 14 rfl)) ⟨congrArg (fun z => some (Value.int z)) (if_neg (by assumption)), rfl, rfl⟩
  · skip
    have q4 : (¬ h (n + 2) (j) = (-1 : Int32)) := bz1.mp q4
    refine X_aload_n C 0 (D (8, .aload_n 0, 1) (mg 4 rfl)) rfl rfl ?_
    refine X_get (v := .ref (wA w (n + 2))) C (n) 1 (by omega) hsn rfl rfl (by decide) inX1 fX1_15 rfl (D (9, .getfield 15, 3) (mg 5 rfl)) rfl ?_
    refine X_iload_n C 1 (D (12, .iload_n 1, 1) (mg 6 rfl)) rfl rfl ?_
    refine X_iald (v := h (n + 2) (j)) C (n + 2) (by omega) hs2 (vp_in_nI (by omega) (by omega)) (D (13, .iaload, 1) (mg 7 rfl)) (by rw [nI_clamp (by omega)]) ?_
    refine X_bipush (v := nI (100)) C (D (14, .bipush 100, 2) (mg 8 rfl)) (by decide) ?_
    refine X_idiv C (D (16, .idiv, 1) (mg 9 rfl)) (by decide) ?_
    refine X_bipush (v := nI (10)) C (D (17, .bipush 10, 2) (mg 10 rfl)) (by decide) ?_
    refine X_irem C (D (19, .irem, 1) (mg 11 rfl)) (by decide) ?_
    refine X_goto (tgt := 24) C (D (20, .goto 4, 3) (mg 12 rfl)) (by decide) ?_
    exact X_iret C (D (24, .ireturn, 1) (mg 14 rfl)) ⟨congrArg (fun z => some (Value.int z)) (if_pos (by assumption)), rfl, rfl⟩
set_option maxHeartbeats 4000000 in
set_option maxRecDepth 100000 in
theorem ct_X1_ageIn {l : Launch} {w : Kw} (hw : wOk w) {n : Nat} (hN : shN w n) {j : Nat} (hj : j < 25) (h : xI) (g : xJ)  : Ct l w yX1_ageIn cX1_ageIn 2 (some .int) 1 21 [.ref (wA w (n)), .int (nI (j))] h g (px (some (.int (cA (h (n + 2) j)))) h g) := by
  refine Ct_of (ls := [some (.ref (wA w (n))), some (.int (nI (j)))]) (by decide) hw (Nat.le_of_ble_eq_true rfl) rfl (fun k hkl C => ?_)
  have C : Cx k w cX1_ageIn RX1 2 (some .int) 1 21 := C
  have D := dtX1_ageIn
  subst hkl
  have hN0 := hN
  obtain ⟨hn, hsn, hs1, hs2⟩ := hN
  have hN := hN0
  refine X_aload_n C 0 (D (0, .aload_n 0, 1) (mg 0 rfl)) rfl rfl ?_
  refine X_iload_n C 1 (D (1, .iload_n 1, 1) (mg 1 rfl)) rfl rfl ?_
  refine X_cV (As := [.int (nI (j))]) (st := []) C (post := _) (n) (by omega) hsn rfl (ct_X1_liesIn hw (n := n) hN (j := j) (by omega) h g) kX1_40 (by decide) (by decide) rfl rfl (Nat.le_of_ble_eq_true rfl) (D (2, .invokevirtual 40, 3) (mg 2 rfl)) rfl (fun v3 H1 G2 hv3 => ?_)
  obtain ⟨rfl, rfl, rfl⟩ := hv3
  show X k w _ 5 [some (.ref (wA w (n))), some (.int (nI (j)))] [.int (if ¬ h (n + 2) (j) = (-1 : Int32) then 1 else 0)] h g
  refine X_if_eq (tgt := 20) C (D (5, .ifCond .eq 15, 3) (mg 3 rfl)) (by decide) (fun q4 => ?_) (fun q4 => ?_)
  · skip
    have q4 : ¬ (¬ h (n + 2) (j) = (-1 : Int32)) := bz0.mp q4
    refine X_iconst (v := (-1 : Int32)) C (D (20, .iconst (-1), 1) (mg 11 rfl)) (by decide) ?_
    exact X_iret C (D (21, .ireturn, 1) (mg 12 rfl)) ⟨congrArg (fun z => some (Value.int z)) (if_neg (by assumption)), rfl, rfl⟩
  · skip
    have q4 : (¬ h (n + 2) (j) = (-1 : Int32)) := bz1.mp q4
    refine X_aload_n C 0 (D (8, .aload_n 0, 1) (mg 4 rfl)) rfl rfl ?_
    refine X_get (v := .ref (wA w (n + 2))) C (n) 1 (by omega) hsn rfl rfl (by decide) inX1 fX1_15 rfl (D (9, .getfield 15, 3) (mg 5 rfl)) rfl ?_
    refine X_iload_n C 1 (D (12, .iload_n 1, 1) (mg 6 rfl)) rfl rfl ?_
    refine X_iald (v := h (n + 2) (j)) C (n + 2) (by omega) hs2 (vp_in_nI (by omega) (by omega)) (D (13, .iaload, 1) (mg 7 rfl)) (by rw [nI_clamp (by omega)]) ?_
    refine X_bipush (v := nI (100)) C (D (14, .bipush 100, 2) (mg 8 rfl)) (by decide) ?_
    refine X_irem C (D (16, .irem, 1) (mg 9 rfl)) (by decide) ?_
    refine X_goto (tgt := 21) C (D (17, .goto 4, 3) (mg 10 rfl)) (by decide) ?_
    exact X_iret C (D (21, .ireturn, 1) (mg 12 rfl)) ⟨congrArg (fun z => some (Value.int z)) (if_pos (by assumption)), rfl, rfl⟩
set_option maxHeartbeats 4000000 in
set_option maxRecDepth 100000 in
theorem ct_X1_dragIn {l : Launch} {w : Kw} (hw : wOk w) {n : Nat} (hN : shN w n) {j : Nat} (hj : j < 25) (h : xI) (g : xJ)  : Ct l w yX1_dragIn cX1_dragIn 2 (some .int) 2 42 [.ref (wA w (n)), .int (nI (j))] h g (pI h g) := by
  refine Ct_of (ls := [some (.ref (wA w (n))), some (.int (nI (j)))]) (by decide) hw (Nat.le_of_ble_eq_true rfl) rfl (fun k hkl C => ?_)
  have C : Cx k w cX1_dragIn RX1 2 (some .int) 2 42 := C
  have D := dtX1_dragIn
  subst hkl
  have hN0 := hN
  obtain ⟨hn, hsn, hs1, hs2⟩ := hN
  have hN := hN0
  refine X_aload_n C 0 (D (0, .aload_n 0, 1) (mg 0 rfl)) rfl rfl ?_
  refine X_iload_n C 1 (D (1, .iload_n 1, 1) (mg 1 rfl)) rfl rfl ?_
  refine X_cV (As := [.int (nI (j))]) (st := []) C (post := _) (n) (by omega) hsn rfl (ct_X1_liesIn hw (n := n) hN (j := j) (by omega) h g) kX1_40 (by decide) (by decide) rfl rfl (Nat.le_of_ble_eq_true rfl) (D (2, .invokevirtual 40, 3) (mg 2 rfl)) rfl (fun v3 H1 G2 hv3 => ?_)
  obtain ⟨rfl, rfl, rfl⟩ := hv3
  show X k w _ 5 [some (.ref (wA w (n))), some (.int (nI (j)))] [.int (if ¬ h (n + 2) (j) = (-1 : Int32) then 1 else 0)] h g
  refine X_if_eq (tgt := 29) C (D (5, .ifCond .eq 24, 3) (mg 3 rfl)) (by decide) (fun q4 => ?_) (fun q4 => ?_)
  · skip
    have q4 : ¬ (¬ h (n + 2) (j) = (-1 : Int32)) := bz0.mp q4
    refine X_iconst (v := (-1 : Int32)) C (D (29, .iconst (-1), 1) (mg 15 rfl)) (by decide) ?_
    exact X_iret C (D (30, .ireturn, 1) (mg 16 rfl)) ⟨⟨_, rfl⟩, rfl, rfl⟩
  · skip
    have q4 : (¬ h (n + 2) (j) = (-1 : Int32)) := bz1.mp q4
    refine X_aload_n C 0 (D (8, .aload_n 0, 1) (mg 4 rfl)) rfl rfl ?_
    refine X_get (v := .int (h (n) 2)) C (n) 2 (by omega) hsn rfl rfl (by decide) inX1 fX1_24 rfl (D (9, .getfield 24, 3) (mg 5 rfl)) rfl ?_
    refine X_aload_n C 0 (D (12, .aload_n 0, 1) (mg 6 rfl)) rfl rfl ?_
    refine X_iload_n C 1 (D (13, .iload_n 1, 1) (mg 7 rfl)) rfl rfl ?_
    refine X_cV (As := [.int (nI (j))]) (st := [.int (h (n) 2)]) C (post := _) (n) (by omega) hsn rfl (ct_X1_depthIn hw (n := n) hN (j := j) (by omega) h g) kX1_44 (by decide) (by decide) rfl rfl (Nat.le_of_ble_eq_true rfl) (D (14, .invokevirtual 44, 3) (mg 8 rfl)) rfl (fun v7 H5 G6 hv7 => ?_)
    obtain ⟨rfl, rfl, rfl⟩ := hv7
    show X k w _ 17 [some (.ref (wA w (n))), some (.int (nI (j)))] [.int (cD (h (n + 2) (j))), .int (h (n) 2)] h g
    refine X_aload_n C 0 (D (17, .aload_n 0, 1) (mg 9 rfl)) rfl rfl ?_
    refine X_get (v := .ref (wA w (n + 1))) C (n) 0 (by omega) hsn rfl rfl (by decide) inX1 fX1_9 rfl (D (18, .getfield 9, 3) (mg 10 rfl)) rfl ?_
    refine X_iload_n C 1 (D (21, .iload_n 1, 1) (mg 11 rfl)) rfl rfl ?_
    refine X_iald (v := h (n + 1) (j)) C (n + 1) (by omega) hs1 (vp_in_nI (by omega) (by omega)) (D (22, .iaload, 1) (mg 12 rfl)) (by rw [nI_clamp (by omega)]) ?_
    refine X_cS (As := [.int (h (n) 2), .int (cD (h (n + 2) (j))), .int (h (n + 1) (j))]) (st := []) C (post := _) (ct_X0_dragsBy hw (h (n) 2) (cD (h (n + 2) (j))) (h (n + 1) (j)) h g) kX1_48 (by decide) (by decide) rfl rfl (Nat.le_of_ble_eq_true rfl) (D (23, .invokestatic 48, 3) (mg 13 rfl)) rfl (fun v10 H8 G9 hv10 => ?_)
    obtain ⟨rfl, rfl, rfl⟩ := hv10
    show X k w _ 26 [some (.ref (wA w (n))), some (.int (nI (j)))] [.int (deC (h (n) 2) (cD (h (n + 2) (j))) (h (n + 1) (j)))] h g
    refine X_goto (tgt := 30) C (D (26, .goto 4, 3) (mg 14 rfl)) (by decide) ?_
    exact X_iret C (D (30, .ireturn, 1) (mg 16 rfl)) ⟨⟨_, rfl⟩, rfl, rfl⟩
set_option maxHeartbeats 4000000 in
set_option maxRecDepth 100000 in
theorem ct_X1_heightAfter {l : Launch} {w : Kw} (hw : wOk w) {n : Nat} (hN : shN w n) {j : Nat} (hj : j < 25) (x : Int32) (h : xI) (g : xJ)  : Ct l w yX1_heightAfter cX1_heightAfter 3 (some .int) 2 46 [.ref (wA w (n)), .int (nI (j)), .int (x)] h g (pI h g) := by
  refine Ct_of (ls := [some (.ref (wA w (n))), some (.int (nI (j))), some (.int (x))]) (by decide) hw (Nat.le_of_ble_eq_true rfl) rfl (fun k hkl C => ?_)
  have C : Cx k w cX1_heightAfter RX1 3 (some .int) 2 46 := C
  have D := dtX1_heightAfter
  subst hkl
  have hN0 := hN
  obtain ⟨hn, hsn, hs1, hs2⟩ := hN
  have hN := hN0
  refine X_aload_n C 0 (D (0, .aload_n 0, 1) (mg 0 rfl)) rfl rfl ?_
  refine X_iload_n C 1 (D (1, .iload_n 1, 1) (mg 1 rfl)) rfl rfl ?_
  refine X_cV (As := [.int (nI (j))]) (st := []) C (post := _) (n) (by omega) hsn rfl (ct_X1_depthIn hw (n := n) hN (j := j) (by omega) h g) kX1_44 (by decide) (by decide) rfl rfl (Nat.le_of_ble_eq_true rfl) (D (2, .invokevirtual 44, 3) (mg 2 rfl)) rfl (fun v3 H1 G2 hv3 => ?_)
  obtain ⟨rfl, rfl, rfl⟩ := hv3
  show X k w _ 5 [some (.ref (wA w (n))), some (.int (nI (j))), some (.int (x))] [.int (cD (h (n + 2) (j)))] h g
  refine X_iconst (v := nI (1)) C (D (5, .iconst 1, 1) (mg 3 rfl)) (by decide) ?_
  refine X_icmp_ge (tgt := 11) C (D (6, .if_icmp .ge 5, 3) (mg 4 rfl)) (by decide) (fun q4 => ?_) (fun q4 => ?_)
  · skip
    refine X_aload_n C 0 (D (11, .aload_n 0, 1) (mg 7 rfl)) rfl rfl ?_
    refine X_iload_n C 1 (D (12, .iload_n 1, 1) (mg 8 rfl)) rfl rfl ?_
    refine X_cV (As := [.int (nI (j))]) (st := []) C (post := _) (n) (by omega) hsn rfl (ct_X1_kindIn hw (n := n) hN (j := j) (by omega) h g) kX1_54 (by decide) (by decide) rfl rfl (Nat.le_of_ble_eq_true rfl) (D (13, .invokevirtual 54, 3) (mg 9 rfl)) rfl (fun v7 H5 G6 hv7 => ?_)
    obtain ⟨rfl, rfl, rfl⟩ := hv7
    show X k w _ 16 [some (.ref (wA w (n))), some (.int (nI (j))), some (.int (x))] [.int (cK (h (n + 2) (j)))] h g
    refine X_aload_n C 0 (D (16, .aload_n 0, 1) (mg 10 rfl)) rfl rfl ?_
    refine X_iload_n C 1 (D (17, .iload_n 1, 1) (mg 11 rfl)) rfl rfl ?_
    refine X_cV (As := [.int (nI (j))]) (st := [.int (cK (h (n + 2) (j)))]) C (post := _) (n) (by omega) hsn rfl (ct_X1_depthIn hw (n := n) hN (j := j) (by omega) h g) kX1_44 (by decide) (by decide) rfl rfl (Nat.le_of_ble_eq_true rfl) (D (18, .invokevirtual 44, 3) (mg 12 rfl)) rfl (fun v10 H8 G9 hv10 => ?_)
    obtain ⟨rfl, rfl, rfl⟩ := hv10
    show X k w _ 21 [some (.ref (wA w (n))), some (.int (nI (j))), some (.int (x))] [.int (cD (h (n + 2) (j))), .int (cK (h (n + 2) (j)))] h g
    refine X_aload_n C 0 (D (21, .aload_n 0, 1) (mg 13 rfl)) rfl rfl ?_
    refine X_iload_n C 1 (D (22, .iload_n 1, 1) (mg 14 rfl)) rfl rfl ?_
    refine X_cV (As := [.int (nI (j))]) (st := [.int (cD (h (n + 2) (j))), .int (cK (h (n + 2) (j)))]) C (post := _) (n) (by omega) hsn rfl (ct_X1_ageIn hw (n := n) hN (j := j) (by omega) h g) kX1_57 (by decide) (by decide) rfl rfl (Nat.le_of_ble_eq_true rfl) (D (23, .invokevirtual 57, 3) (mg 15 rfl)) rfl (fun v13 H11 G12 hv13 => ?_)
    obtain ⟨rfl, rfl, rfl⟩ := hv13
    show X k w _ 26 [some (.ref (wA w (n))), some (.int (nI (j))), some (.int (x))] [.int (cA (h (n + 2) (j))), .int (cD (h (n + 2) (j))), .int (cK (h (n + 2) (j)))] h g
    refine X_iload_n C 2 (D (26, .iload_n 2, 1) (mg 16 rfl)) rfl rfl ?_
    refine X_iadd C (D (27, .iadd, 1) (mg 17 rfl)) ?_
    refine X_bipush (v := nI (99)) C (D (28, .bipush 99, 2) (mg 18 rfl)) (by decide) ?_
    refine X_mmin (st := [.int (cD (h (n + 2) (j))), .int (cK (h (n + 2) (j)))]) C kX1_60 (by decide) (by decide) (Nat.le_of_ble_eq_true rfl) rfl (D (30, .invokestatic 60, 3) (mg 19 rfl)) ?_
    refine X_cS (As := [.int (cK (h (n + 2) (j))), .int (cD (h (n + 2) (j))), .int (mnI ((cA (h (n + 2) (j))) + x) (nI (99)))]) (st := []) C (post := _) (ct_X3_stands hw (cK (h (n + 2) (j))) (cD (h (n + 2) (j))) (mnI ((cA (h (n + 2) (j))) + x) (nI (99))) h g) kX1_66 (by decide) (by decide) rfl rfl (Nat.le_of_ble_eq_true rfl) (D (33, .invokestatic 66, 3) (mg 20 rfl)) rfl (fun v16 H14 G15 hv16 => ?_)
    obtain ⟨rfl, rfl, rfl⟩ := hv16
    show X k w _ 36 [some (.ref (wA w (n))), some (.int (nI (j))), some (.int (x))] [.int (hiC (cK (h (n + 2) (j))) (cD (h (n + 2) (j))) (mnI ((cA (h (n + 2) (j))) + x) (nI (99))))] h g
    exact X_iret C (D (36, .ireturn, 1) (mg 21 rfl)) ⟨⟨_, rfl⟩, rfl, rfl⟩
  · skip
    refine X_iconst (v := nI (0)) C (D (9, .iconst 0, 1) (mg 5 rfl)) (by decide) ?_
    exact X_iret C (D (10, .ireturn, 1) (mg 6 rfl)) ⟨⟨_, rfl⟩, rfl, rfl⟩
set_option maxHeartbeats 4000000 in
set_option maxRecDepth 100000 in
theorem ct_X1_atLeast {l : Launch} {w : Kw} (hw : wOk w) {n : Nat} (hN : shN w n) (y0 x : Int32) (h : xI) (g : xJ)  : Ct l w yX1_atLeast cX1_atLeast 5 (some .int) 3 68 [.ref (wA w (n)), .int (y0), .int (x)] h g (pI h g) := by
  refine Ct_of (ls := [some (.ref (wA w (n))), some (.int (y0)), some (.int (x)), none, none]) (by decide) hw (Nat.le_of_ble_eq_true rfl) rfl (fun k hkl C => ?_)
  have C : Cx k w cX1_atLeast RX1 5 (some .int) 3 68 := C
  have D := dtX1_atLeast
  subst hkl
  have hN0 := hN
  obtain ⟨hn, hsn, hs1, hs2⟩ := hN
  have hN := hN0
  refine X_iconst (v := nI (0)) C (D (0, .iconst 0, 1) (mg 0 rfl)) (by decide) ?_
  refine X_istore_n (ls' := [some (.ref (wA w (n))), some (.int (y0)), some (.int (x)), some (.int (nI (0))), none]) C 3 (D (1, .istore_n 3, 1) (mg 1 rfl)) rfl (Nat.le_of_ble_eq_true rfl) rfl ?_
  refine X_iconst (v := nI (0)) C (D (2, .iconst 0, 1) (mg 2 rfl)) (by decide) ?_
  refine X_istore (ls' := [some (.ref (wA w (n))), some (.int (y0)), some (.int (x)), some (.int (nI (0))), some (.int (nI (0)))]) C (D (3, .istore 4, 2) (mg 3 rfl)) (Nat.le_of_ble_eq_true rfl) rfl ?_
  have lp5 : ∀ (nn5 : Nat) (j : Nat) (c : Int32), (j ≤ 25) → 26 - j ≤ nn5 → X k w (Zq k w (pI h g)) 5 [some (.ref (wA w (n))), some (.int (y0)), some (.int (x)), some (.int (c)), some (.int (nI (j)))] [] h g := by
    intro nn5
    induction nn5 with
    | zero => intro j c hc5_0 hz; exact absurd hz (by omega)
    | succ nn5 ih5 =>
      intro j c hc5_0 hz5
      refine X_iload C (D (5, .iload 4, 2) (mg 4 rfl)) rfl ?_
      refine X_bipush (v := nI (25)) C (D (7, .bipush 25, 2) (mg 5 rfl)) (by decide) ?_
      refine X_icmp_ge (tgt := 32) C (D (9, .if_icmp .ge 23, 3) (mg 6 rfl)) (by decide) (fun q1 => ?_) (fun q1 => ?_)
      · skip
        have q1 : (j) ≥ (25) := by have z := (nI_leI (a := (25)) (b := (j)) (by omega) (by omega)).mp q1; omega
        refine X_iload_n C 3 (D (32, .iload_n 3, 1) (mg 16 rfl)) rfl rfl ?_
        exact X_iret C (D (33, .ireturn, 1) (mg 17 rfl)) ⟨⟨_, rfl⟩, rfl, rfl⟩
      · skip
        have q1 : (j) < (25) := by have z : ¬ ((25) ≤ (j)) := fun u => q1 ((nI_leI (a := (25)) (b := (j)) (by omega) (by omega)).mpr u); omega
        refine X_aload_n C 0 (D (12, .aload_n 0, 1) (mg 7 rfl)) rfl rfl ?_
        refine X_iload C (D (13, .iload 4, 2) (mg 8 rfl)) rfl ?_
        refine X_iload_n C 2 (D (15, .iload_n 2, 1) (mg 9 rfl)) rfl rfl ?_
        refine X_cV (As := [.int (nI (j)), .int (x)]) (st := []) C (post := _) (n) (by omega) hsn rfl (ct_X1_heightAfter hw (n := n) hN (j := j) (by omega) (x) h g) kX1_74 (by decide) (by decide) rfl rfl (Nat.le_of_ble_eq_true rfl) (D (16, .invokevirtual 74, 3) (mg 10 rfl)) rfl (fun v4 H2 G3 hv4 => ?_)
        obtain ⟨⟨y5, rfl⟩, rfl, rfl⟩ := hv4
        show X k w _ 19 [some (.ref (wA w (n))), some (.int (y0)), some (.int (x)), some (.int (c)), some (.int (nI (j)))] [.int (y5)] h g
        refine X_iload_n C 1 (D (19, .iload_n 1, 1) (mg 11 rfl)) rfl rfl ?_
        refine X_icmp_lt (tgt := 26) C (D (20, .if_icmp .lt 6, 3) (mg 12 rfl)) (by decide) (fun q6 => ?_) (fun q6 => ?_)
        · skip
          refine X_iinc (v := nI (j + 1)) (ls' := [some (.ref (wA w (n))), some (.int (y0)), some (.int (x)), some (.int (c)), some (.int (nI (j + 1)))]) C (D (26, .iinc 4 1, 3) (mg 14 rfl)) rfl (nI_add (j) 1) rfl ?_
          refine X_goto (tgt := 5) C (D (29, .goto (-24), 3) (mg 15 rfl)) (by decide) ?_
          refine X_eq (ls' := [some (.ref (wA w (n))), some (.int (y0)), some (.int (x)), some (.int (c)), some (.int (nI (j + 1)))]) (st' := []) (h' := h) (g' := g) rfl rfl rfl rfl ?_
          exact ih5 (j + 1) (c) (by omega) (by omega)
        · skip
          refine X_iinc (v := c + 1) (ls' := [some (.ref (wA w (n))), some (.int (y0)), some (.int (x)), some (.int (c + 1)), some (.int (nI (j)))]) C (D (23, .iinc 3 1, 3) (mg 13 rfl)) rfl rfl rfl ?_
          refine X_iinc (v := nI (j + 1)) (ls' := [some (.ref (wA w (n))), some (.int (y0)), some (.int (x)), some (.int (c + 1)), some (.int (nI (j + 1)))]) C (D (26, .iinc 4 1, 3) (mg 14 rfl)) rfl (nI_add (j) 1) rfl ?_
          refine X_goto (tgt := 5) C (D (29, .goto (-24), 3) (mg 15 rfl)) (by decide) ?_
          refine X_eq (ls' := [some (.ref (wA w (n))), some (.int (y0)), some (.int (x)), some (.int (c + 1)), some (.int (nI (j + 1)))]) (st' := []) (h' := h) (g' := g) rfl rfl rfl rfl ?_
          exact ih5 (j + 1) (c + 1) (by omega) (by omega)
  refine X_eq (ls' := [some (.ref (wA w (n))), some (.int (y0)), some (.int (x)), some (.int (nI (0))), some (.int (nI (0)))]) (st' := []) (h' := h) (g' := g) rfl rfl rfl rfl ?_
  exact lp5 _ (0) (nI (0)) (by omega) (Nat.le_refl _)
set_option maxHeartbeats 4000000 in
set_option maxRecDepth 100000 in
theorem ct_X1_greenAfter {l : Launch} {w : Kw} (hw : wOk w) {n : Nat} (hN : shN w n) (x : Int32) (h : xI) (g : xJ)  : Ct l w yX1_greenAfter cX1_greenAfter 2 (some .int) 4 92 [.ref (wA w (n)), .int (x)] h g (pI h g) := by
  refine Ct_of (ls := [some (.ref (wA w (n))), some (.int (x))]) (by decide) hw (Nat.le_of_ble_eq_true rfl) rfl (fun k hkl C => ?_)
  have C : Cx k w cX1_greenAfter RX1 2 (some .int) 4 92 := C
  have D := dtX1_greenAfter
  subst hkl
  have hN0 := hN
  obtain ⟨hn, hsn, hs1, hs2⟩ := hN
  have hN := hN0
  refine X_aload_n C 0 (D (0, .aload_n 0, 1) (mg 0 rfl)) rfl rfl ?_
  refine X_iconst (v := nI (1)) C (D (1, .iconst 1, 1) (mg 1 rfl)) (by decide) ?_
  refine X_iload_n C 1 (D (2, .iload_n 1, 1) (mg 2 rfl)) rfl rfl ?_
  refine X_cV (As := [.int (nI (1)), .int (x)]) (st := []) C (post := _) (n) (by omega) hsn rfl (ct_X1_atLeast hw (n := n) hN (nI (1)) (x) h g) kX1_71 (by decide) (by decide) rfl rfl (Nat.le_of_ble_eq_true rfl) (D (3, .invokevirtual 71, 3) (mg 3 rfl)) rfl (fun v3 H1 G2 hv3 => ?_)
  obtain ⟨⟨y4, rfl⟩, rfl, rfl⟩ := hv3
  show X k w _ 6 [some (.ref (wA w (n))), some (.int (x))] [.int (y4)] h g
  exact X_iret C (D (6, .ireturn, 1) (mg 4 rfl)) ⟨⟨_, rfl⟩, rfl, rfl⟩
set_option maxHeartbeats 4000000 in
set_option maxRecDepth 100000 in
theorem ct_X1_filled {l : Launch} {w : Kw} (hw : wOk w) {n : Nat} (hN : shN w n) (h : xI) (g : xJ)  : Ct l w yX1_filled cX1_filled 3 (some .int) 1 21 [.ref (wA w (n))] h g (pI h g) := by
  refine Ct_of (ls := [some (.ref (wA w (n))), none, none]) (by decide) hw (Nat.le_of_ble_eq_true rfl) rfl (fun k hkl C => ?_)
  have C : Cx k w cX1_filled RX1 3 (some .int) 1 21 := C
  have D := dtX1_filled
  subst hkl
  have hN0 := hN
  obtain ⟨hn, hsn, hs1, hs2⟩ := hN
  have hN := hN0
  refine X_iconst (v := nI (0)) C (D (0, .iconst 0, 1) (mg 0 rfl)) (by decide) ?_
  refine X_istore_n (ls' := [some (.ref (wA w (n))), some (.int (nI (0))), none]) C 1 (D (1, .istore_n 1, 1) (mg 1 rfl)) rfl (Nat.le_of_ble_eq_true rfl) rfl ?_
  refine X_iconst (v := nI (0)) C (D (2, .iconst 0, 1) (mg 2 rfl)) (by decide) ?_
  refine X_istore_n (ls' := [some (.ref (wA w (n))), some (.int (nI (0))), some (.int (nI (0)))]) C 2 (D (3, .istore_n 2, 1) (mg 3 rfl)) rfl (Nat.le_of_ble_eq_true rfl) rfl ?_
  have lp4 : ∀ (nn4 : Nat) (j : Nat) (c : Int32), (j ≤ 25) → 26 - j ≤ nn4 → X k w (Zq k w (pI h g)) 4 [some (.ref (wA w (n))), some (.int (c)), some (.int (nI (j)))] [] h g := by
    intro nn4
    induction nn4 with
    | zero => intro j c hc4_0 hz; exact absurd hz (by omega)
    | succ nn4 ih4 =>
      intro j c hc4_0 hz4
      refine X_iload_n C 2 (D (4, .iload_n 2, 1) (mg 4 rfl)) rfl rfl ?_
      refine X_bipush (v := nI (25)) C (D (5, .bipush 25, 2) (mg 5 rfl)) (by decide) ?_
      refine X_icmp_ge (tgt := 27) C (D (7, .if_icmp .ge 20, 3) (mg 6 rfl)) (by decide) (fun q1 => ?_) (fun q1 => ?_)
      · skip
        have q1 : (j) ≥ (25) := by have z := (nI_leI (a := (25)) (b := (j)) (by omega) (by omega)).mp q1; omega
        refine X_iload_n C 1 (D (27, .iload_n 1, 1) (mg 14 rfl)) rfl rfl ?_
        exact X_iret C (D (28, .ireturn, 1) (mg 15 rfl)) ⟨⟨_, rfl⟩, rfl, rfl⟩
      · skip
        have q1 : (j) < (25) := by have z : ¬ ((25) ≤ (j)) := fun u => q1 ((nI_leI (a := (25)) (b := (j)) (by omega) (by omega)).mpr u); omega
        refine X_aload_n C 0 (D (10, .aload_n 0, 1) (mg 7 rfl)) rfl rfl ?_
        refine X_iload_n C 2 (D (11, .iload_n 2, 1) (mg 8 rfl)) rfl rfl ?_
        refine X_cV (As := [.int (nI (j))]) (st := []) C (post := _) (n) (by omega) hsn rfl (ct_X1_liesIn hw (n := n) hN (j := j) (by omega) h g) kX1_40 (by decide) (by decide) rfl rfl (Nat.le_of_ble_eq_true rfl) (D (12, .invokevirtual 40, 3) (mg 9 rfl)) rfl (fun v4 H2 G3 hv4 => ?_)
        obtain ⟨rfl, rfl, rfl⟩ := hv4
        show X k w _ 15 [some (.ref (wA w (n))), some (.int (c)), some (.int (nI (j)))] [.int (if ¬ h (n + 2) (j) = (-1 : Int32) then 1 else 0)] h g
        refine X_if_eq (tgt := 21) C (D (15, .ifCond .eq 6, 3) (mg 10 rfl)) (by decide) (fun q5 => ?_) (fun q5 => ?_)
        · skip
          have q5 : ¬ (¬ h (n + 2) (j) = (-1 : Int32)) := bz0.mp q5
          refine X_iinc (v := nI (j + 1)) (ls' := [some (.ref (wA w (n))), some (.int (c)), some (.int (nI (j + 1)))]) C (D (21, .iinc 2 1, 3) (mg 12 rfl)) rfl (nI_add (j) 1) rfl ?_
          refine X_goto (tgt := 4) C (D (24, .goto (-20), 3) (mg 13 rfl)) (by decide) ?_
          refine X_eq (ls' := [some (.ref (wA w (n))), some (.int (c)), some (.int (nI (j + 1)))]) (st' := []) (h' := h) (g' := g) rfl rfl rfl rfl ?_
          exact ih4 (j + 1) (c) (by omega) (by omega)
        · skip
          have q5 : (¬ h (n + 2) (j) = (-1 : Int32)) := bz1.mp q5
          refine X_iinc (v := c + 1) (ls' := [some (.ref (wA w (n))), some (.int (c + 1)), some (.int (nI (j)))]) C (D (18, .iinc 1 1, 3) (mg 11 rfl)) rfl rfl rfl ?_
          refine X_iinc (v := nI (j + 1)) (ls' := [some (.ref (wA w (n))), some (.int (c + 1)), some (.int (nI (j + 1)))]) C (D (21, .iinc 2 1, 3) (mg 12 rfl)) rfl (nI_add (j) 1) rfl ?_
          refine X_goto (tgt := 4) C (D (24, .goto (-20), 3) (mg 13 rfl)) (by decide) ?_
          refine X_eq (ls' := [some (.ref (wA w (n))), some (.int (c + 1)), some (.int (nI (j + 1)))]) (st' := []) (h' := h) (g' := g) rfl rfl rfl rfl ?_
          exact ih4 (j + 1) (c + 1) (by omega) (by omega)
  refine X_eq (ls' := [some (.ref (wA w (n))), some (.int (nI (0))), some (.int (nI (0)))]) (st' := []) (h' := h) (g' := g) rfl rfl rfl rfl ?_
  exact lp4 _ (0) (nI (0)) (by omega) (Nat.le_refl _)
set_option maxHeartbeats 4000000 in
set_option maxRecDepth 100000 in
theorem ct_X1_put {l : Launch} {w : Kw} (hw : wOk w) {n : Nat} (hN : shN w n) {j : Nat} (hj : j < 25) (kd : Int32) (h : xI) (g : xJ)  : Ct l w yX1_put cX1_put 3 none 0 0 [.ref (wA w (n)), .int (nI (j)), .int (kd)] h g (px none (u2 h (n + 2) j (nI 1000 * kd)) g) := by
  refine Ct_of (ls := [some (.ref (wA w (n))), some (.int (nI (j))), some (.int (kd))]) (by decide) hw (Nat.le_of_ble_eq_true rfl) rfl (fun k hkl C => ?_)
  have C : Cx k w cX1_put RX1 3 none 0 0 := C
  have D := dtX1_put
  subst hkl
  have hN0 := hN
  obtain ⟨hn, hsn, hs1, hs2⟩ := hN
  have hN := hN0
  refine X_aload_n C 0 (D (0, .aload_n 0, 1) (mg 0 rfl)) rfl rfl ?_
  refine X_get (v := .ref (wA w (n + 2))) C (n) 1 (by omega) hsn rfl rfl (by decide) inX1 fX1_15 rfl (D (1, .getfield 15, 3) (mg 1 rfl)) rfl ?_
  refine X_iload_n C 1 (D (4, .iload_n 1, 1) (mg 2 rfl)) rfl rfl ?_
  refine X_sipush (v := nI (1000)) C (D (5, .sipush 1000, 3) (mg 3 rfl)) (by decide) ?_
  refine X_iload_n C 2 (D (8, .iload_n 2, 1) (mg 4 rfl)) rfl rfl ?_
  refine X_imul C (D (9, .imul, 1) (mg 5 rfl)) ?_
  refine X_iast (j := j) C (n + 2) (by omega) hs2 (vp_in_nI (by omega) (by omega)) (D (10, .iastore, 1) (mg 6 rfl)) (nI_clamp (by omega)) ?_
  exact X_vret C (D (11, .return_, 1) (mg 7 rfl)) ⟨rfl, rfl, rfl⟩
set_option maxHeartbeats 4000000 in
set_option maxRecDepth 100000 in
theorem ct_X1_take {l : Launch} {w : Kw} (hw : wOk w) {n : Nat} (hN : shN w n) {j : Nat} (hj : j < 25) (h : xI) (g : xJ)  : Ct l w yX1_take cX1_take 2 none 0 0 [.ref (wA w (n)), .int (nI (j))] h g (px none (u2 h (n + 2) j (-1 : Int32)) g) := by
  refine Ct_of (ls := [some (.ref (wA w (n))), some (.int (nI (j)))]) (by decide) hw (Nat.le_of_ble_eq_true rfl) rfl (fun k hkl C => ?_)
  have C : Cx k w cX1_take RX1 2 none 0 0 := C
  have D := dtX1_take
  subst hkl
  have hN0 := hN
  obtain ⟨hn, hsn, hs1, hs2⟩ := hN
  have hN := hN0
  refine X_aload_n C 0 (D (0, .aload_n 0, 1) (mg 0 rfl)) rfl rfl ?_
  refine X_get (v := .ref (wA w (n + 2))) C (n) 1 (by omega) hsn rfl rfl (by decide) inX1 fX1_15 rfl (D (1, .getfield 15, 3) (mg 1 rfl)) rfl ?_
  refine X_iload_n C 1 (D (4, .iload_n 1, 1) (mg 2 rfl)) rfl rfl ?_
  refine X_iconst (v := (-1 : Int32)) C (D (5, .iconst (-1), 1) (mg 3 rfl)) (by decide) ?_
  refine X_iast (j := j) C (n + 2) (by omega) hs2 (vp_in_nI (by omega) (by omega)) (D (6, .iastore, 1) (mg 4 rfl)) (nI_clamp (by omega)) ?_
  exact X_vret C (D (7, .return_, 1) (mg 5 rfl)) ⟨rfl, rfl, rfl⟩
set_option maxHeartbeats 4000000 in
set_option maxRecDepth 100000 in
theorem ct_X1_begin {l : Launch} {w : Kw} (hw : wOk w) {n : Nat} (hN : shN w n) (kd c : Int32) (h : xI) (g : xJ)  : Ct l w yX1_begin cX1_begin 3 none 1 23 [.ref (wA w (n)), .int (kd), .int (c)] h g (px none (cbH h n kd c) g) := by
  refine Ct_of (ls := [some (.ref (wA w (n))), some (.int (kd)), some (.int (c))]) (by decide) hw (Nat.le_of_ble_eq_true rfl) rfl (fun k hkl C => ?_)
  have C : Cx k w cX1_begin RX1 3 none 1 23 := C
  have D := dtX1_begin
  subst hkl
  have hN0 := hN
  obtain ⟨hn, hsn, hs1, hs2⟩ := hN
  have hN := hN0
  refine X_aload_n C 0 (D (0, .aload_n 0, 1) (mg 0 rfl)) rfl rfl ?_
  refine X_get (v := .ref (wA w (n + 1))) C (n) 0 (by omega) hsn rfl rfl (by decide) inX1 fX1_9 rfl (D (1, .getfield 9, 3) (mg 1 rfl)) rfl ?_
  refine X_iconst (v := nI (0)) C (D (4, .iconst 0, 1) (mg 2 rfl)) (by decide) ?_
  refine X_cS (As := [.ref (wA w (n + 1)), .int (nI (0))]) (st := []) C (post := _) (ct_J7_fill_53178 hw (p := n + 1) (n := 25) (by omega) hs1 (by omega) (nI (0)) h g) kX1_18 (by decide) (by decide) rfl rfl (Nat.le_of_ble_eq_true rfl) (D (5, .invokestatic 18, 3) (mg 3 rfl)) rfl (fun v3 H1 G2 hv3 => ?_)
  obtain ⟨rfl, rfl, rfl⟩ := hv3
  show X k w _ 8 [some (.ref (wA w (n))), some (.int (kd)), some (.int (c))] [] (mp h (n + 1) 0 25 (fun _ => nI (0))) g
  refine X_aload_n C 0 (D (8, .aload_n 0, 1) (mg 4 rfl)) rfl rfl ?_
  refine X_get (v := .ref (wA w (n + 2))) C (n) 1 (by omega) hsn rfl rfl (by decide) inX1 fX1_15 rfl (D (9, .getfield 15, 3) (mg 5 rfl)) rfl ?_
  refine X_iconst (v := (-1 : Int32)) C (D (12, .iconst (-1), 1) (mg 6 rfl)) (by decide) ?_
  refine X_cS (As := [.ref (wA w (n + 2)), .int ((-1 : Int32))]) (st := []) C (post := _) (ct_J7_fill_53178 hw (p := n + 2) (n := 25) (by omega) hs2 (by omega) ((-1 : Int32)) (mp h (n + 1) 0 25 (fun _ => nI (0))) g) kX1_18 (by decide) (by decide) rfl rfl (Nat.le_of_ble_eq_true rfl) (D (13, .invokestatic 18, 3) (mg 7 rfl)) rfl (fun v6 H4 G5 hv6 => ?_)
  obtain ⟨rfl, rfl, rfl⟩ := hv6
  show X k w _ 16 [some (.ref (wA w (n))), some (.int (kd)), some (.int (c))] [] (mp (mp h (n + 1) 0 25 (fun _ => nI (0))) (n + 2) 0 25 (fun _ => (-1 : Int32))) g
  refine X_aload_n C 0 (D (16, .aload_n 0, 1) (mg 8 rfl)) rfl rfl ?_
  refine X_iload_n C 1 (D (17, .iload_n 1, 1) (mg 9 rfl)) rfl rfl ?_
  refine X_putI C (n) 2 tyX1 tyX1_ok nmX1 (by omega) hsn rfl rfl (by decide) inX1 fX1_24 rfl rfl (by decide +kernel) (D (18, .putfield 24, 3) (mg 10 rfl)) ?_
  refine X_aload_n C 0 (D (21, .aload_n 0, 1) (mg 11 rfl)) rfl rfl ?_
  refine X_iload_n C 2 (D (22, .iload_n 2, 1) (mg 12 rfl)) rfl rfl ?_
  refine X_putI C (n) 3 tyX1 tyX1_ok nmX1 (by omega) hsn rfl rfl (by decide) inX1 fX1_28 rfl rfl (by decide +kernel) (D (23, .putfield 28, 3) (mg 13 rfl)) ?_
  refine X_aload_n C 0 (D (26, .aload_n 0, 1) (mg 14 rfl)) rfl rfl ?_
  refine X_iconst (v := nI (0)) C (D (27, .iconst 0, 1) (mg 15 rfl)) (by decide) ?_
  refine X_putI C (n) 4 tyX1 tyX1_ok nmX1 (by omega) hsn rfl rfl (by decide) inX1 fX1_31 rfl rfl (by decide +kernel) (D (28, .putfield 31, 3) (mg 16 rfl)) ?_
  exact X_vret C (D (31, .return_, 1) (mg 17 rfl)) ⟨rfl, rfl, rfl⟩
set_option maxHeartbeats 4000000 in
set_option maxRecDepth 100000 in
theorem ct_X1_copyFrom {l : Launch} {w : Kw} (hw : wOk w) {n : Nat} (hN : shN w n) {o : Nat} (hO : shN w o) (h : xI) (g : xJ)  : Ct l w yX1_copyFrom cX1_copyFrom 2 none 1 26 [.ref (wA w (n)), .ref (wA w (o))] h g (px none (ccH h n o) g) := by
  refine Ct_of (ls := [some (.ref (wA w (n))), some (.ref (wA w (o)))]) (by decide) hw (Nat.le_of_ble_eq_true rfl) rfl (fun k hkl C => ?_)
  have C : Cx k w cX1_copyFrom RX1 2 none 1 26 := C
  have D := dtX1_copyFrom
  subst hkl
  have hN0 := hN
  obtain ⟨hn, hsn, hs1, hs2⟩ := hN
  have hN := hN0
  obtain ⟨ho, hso, ho1, ho2⟩ := hO
  refine X_aload_n C 1 (D (0, .aload_n 1, 1) (mg 0 rfl)) rfl rfl ?_
  refine X_get (v := .ref (wA w (o + 1))) C (o) 0 (by omega) hso rfl rfl (by decide) inX1 fX1_9 rfl (D (1, .getfield 9, 3) (mg 1 rfl)) rfl ?_
  refine X_iconst (v := nI (0)) C (D (4, .iconst 0, 1) (mg 2 rfl)) (by decide) ?_
  refine X_aload_n C 0 (D (5, .aload_n 0, 1) (mg 3 rfl)) rfl rfl ?_
  refine X_get (v := .ref (wA w (n + 1))) C (n) 0 (by omega) hsn rfl rfl (by decide) inX1 fX1_9 rfl (D (6, .getfield 9, 3) (mg 4 rfl)) rfl ?_
  refine X_iconst (v := nI (0)) C (D (9, .iconst 0, 1) (mg 5 rfl)) (by decide) ?_
  refine X_bipush (v := nI (25)) C (D (10, .bipush 25, 2) (mg 6 rfl)) (by decide) ?_
  refine X_copy (st := []) C (o + 1) (n + 1) (by omega) ho1 (by omega) hs1 (by omega) (by omega) (by omega) (by omega) kX1_34 (D (12, .invokestatic 34, 3) (mg 7 rfl)) (by decide) (by decide) (Nat.le_of_ble_eq_true rfl) rfl ?_
  refine X_aload_n C 1 (D (15, .aload_n 1, 1) (mg 8 rfl)) rfl rfl ?_
  refine X_get (v := .ref (wA w (o + 2))) C (o) 1 (by omega) hso rfl rfl (by decide) inX1 fX1_15 rfl (D (16, .getfield 15, 3) (mg 9 rfl)) rfl ?_
  refine X_iconst (v := nI (0)) C (D (19, .iconst 0, 1) (mg 10 rfl)) (by decide) ?_
  refine X_aload_n C 0 (D (20, .aload_n 0, 1) (mg 11 rfl)) rfl rfl ?_
  refine X_get (v := .ref (wA w (n + 2))) C (n) 1 (by omega) hsn rfl rfl (by decide) inX1 fX1_15 rfl (D (21, .getfield 15, 3) (mg 12 rfl)) rfl ?_
  refine X_iconst (v := nI (0)) C (D (24, .iconst 0, 1) (mg 13 rfl)) (by decide) ?_
  refine X_bipush (v := nI (25)) C (D (25, .bipush 25, 2) (mg 14 rfl)) (by decide) ?_
  refine X_copy (st := []) C (o + 2) (n + 2) (by omega) ho2 (by omega) hs2 (by omega) (by omega) (by omega) (by omega) kX1_34 (D (27, .invokestatic 34, 3) (mg 15 rfl)) (by decide) (by decide) (Nat.le_of_ble_eq_true rfl) rfl ?_
  refine X_aload_n C 0 (D (30, .aload_n 0, 1) (mg 16 rfl)) rfl rfl ?_
  refine X_aload_n C 1 (D (31, .aload_n 1, 1) (mg 17 rfl)) rfl rfl ?_
  refine X_get (v := .int ((cpS (cpS h (o + 1) (0) (n + 1) (0) (25)) (o + 2) (0) (n + 2) (0) (25)) (o) 2)) C (o) 2 (by omega) hso rfl rfl (by decide) inX1 fX1_24 rfl (D (32, .getfield 24, 3) (mg 18 rfl)) rfl ?_
  refine X_putI C (n) 2 tyX1 tyX1_ok nmX1 (by omega) hsn rfl rfl (by decide) inX1 fX1_24 rfl rfl (by decide +kernel) (D (35, .putfield 24, 3) (mg 19 rfl)) ?_
  refine X_aload_n C 0 (D (38, .aload_n 0, 1) (mg 20 rfl)) rfl rfl ?_
  refine X_aload_n C 1 (D (39, .aload_n 1, 1) (mg 21 rfl)) rfl rfl ?_
  refine X_get (v := .int ((u2 (cpS (cpS h (o + 1) (0) (n + 1) (0) (25)) (o + 2) (0) (n + 2) (0) (25)) (n) 2 ((cpS (cpS h (o + 1) (0) (n + 1) (0) (25)) (o + 2) (0) (n + 2) (0) (25)) (o) 2)) (o) 3)) C (o) 3 (by omega) hso rfl rfl (by decide) inX1 fX1_28 rfl (D (40, .getfield 28, 3) (mg 22 rfl)) rfl ?_
  refine X_putI C (n) 3 tyX1 tyX1_ok nmX1 (by omega) hsn rfl rfl (by decide) inX1 fX1_28 rfl rfl (by decide +kernel) (D (43, .putfield 28, 3) (mg 23 rfl)) ?_
  refine X_aload_n C 0 (D (46, .aload_n 0, 1) (mg 24 rfl)) rfl rfl ?_
  refine X_aload_n C 1 (D (47, .aload_n 1, 1) (mg 25 rfl)) rfl rfl ?_
  refine X_get (v := .int ((u2 (u2 (cpS (cpS h (o + 1) (0) (n + 1) (0) (25)) (o + 2) (0) (n + 2) (0) (25)) (n) 2 ((cpS (cpS h (o + 1) (0) (n + 1) (0) (25)) (o + 2) (0) (n + 2) (0) (25)) (o) 2)) (n) 3 ((u2 (cpS (cpS h (o + 1) (0) (n + 1) (0) (25)) (o + 2) (0) (n + 2) (0) (25)) (n) 2 ((cpS (cpS h (o + 1) (0) (n + 1) (0) (25)) (o + 2) (0) (n + 2) (0) (25)) (o) 2)) (o) 3)) (o) 4)) C (o) 4 (by omega) hso rfl rfl (by decide) inX1 fX1_31 rfl (D (48, .getfield 31, 3) (mg 26 rfl)) rfl ?_
  refine X_putI C (n) 4 tyX1 tyX1_ok nmX1 (by omega) hsn rfl rfl (by decide) inX1 fX1_31 rfl rfl (by decide +kernel) (D (51, .putfield 31, 3) (mg 27 rfl)) ?_
  exact X_vret C (D (54, .return_, 1) (mg 28 rfl)) ⟨rfl, rfl, rfl⟩
set_option maxHeartbeats 4000000 in
set_option maxRecDepth 100000 in
theorem ct_X1_stepTo {l : Launch} {w : Kw} (hw : wOk w) {n : Nat} (hN : shN w n) {j : Nat} (hj : j < 25) (h : xI) (g : xJ)  : Ct l w yX1_stepTo cX1_stepTo 4 none 2 48 [.ref (wA w (n)), .int (nI (j))] h g (px none (csH h n j) g) := by
  refine Ct_of (ls := [some (.ref (wA w (n))), some (.int (nI (j))), none, none]) (by decide) hw (Nat.le_of_ble_eq_true rfl) rfl (fun k hkl C => ?_)
  have C : Cx k w cX1_stepTo RX1 4 none 2 48 := C
  have D := dtX1_stepTo
  subst hkl
  have hN0 := hN
  obtain ⟨hn, hsn, hs1, hs2⟩ := hN
  have hN := hN0
  refine X_aload_n C 0 (D (0, .aload_n 0, 1) (mg 0 rfl)) rfl rfl ?_
  refine X_iload_n C 1 (D (1, .iload_n 1, 1) (mg 1 rfl)) rfl rfl ?_
  refine X_putI C (n) 3 tyX1 tyX1_ok nmX1 (by omega) hsn rfl rfl (by decide) inX1 fX1_28 rfl rfl (by decide +kernel) (D (2, .putfield 28, 3) (mg 2 rfl)) ?_
  refine X_aload_n C 0 (D (5, .aload_n 0, 1) (mg 3 rfl)) rfl rfl ?_
  refine X_iload_n C 1 (D (6, .iload_n 1, 1) (mg 4 rfl)) rfl rfl ?_
  refine X_cV (As := [.int (nI (j))]) (st := []) C (post := _) (n) (by omega) hsn rfl (ct_X1_liesIn hw (n := n) hN (j := j) (by omega) (u2 h (n) 3 (nI (j))) g) kX1_40 (by decide) (by decide) rfl rfl (Nat.le_of_ble_eq_true rfl) (D (7, .invokevirtual 40, 3) (mg 5 rfl)) rfl (fun v3 H1 G2 hv3 => ?_)
  obtain ⟨rfl, rfl, rfl⟩ := hv3
  show X k w _ 10 [some (.ref (wA w (n))), some (.int (nI (j))), none, none] [.int (if ¬ (u2 h (n) 3 (nI (j))) (n + 2) (j) = (-1 : Int32) then 1 else 0)] (u2 h (n) 3 (nI (j))) g
  refine X_if_eq (tgt := 49) C (D (10, .ifCond .eq 39, 3) (mg 6 rfl)) (by decide) (fun q4 => ?_) (fun q4 => ?_)
  · skip
    have q4 : ¬ (¬ (u2 h (n) 3 (nI (j))) (n + 2) (j) = (-1 : Int32)) := bz0.mp q4
    exact X_vret C (D (49, .return_, 1) (mg 32 rfl)) ⟨rfl, (if_neg (by assumption)), rfl⟩
  · skip
    have q4 : (¬ (u2 h (n) 3 (nI (j))) (n + 2) (j) = (-1 : Int32)) := bz1.mp q4
    refine X_aload_n C 0 (D (13, .aload_n 0, 1) (mg 7 rfl)) rfl rfl ?_
    refine X_iload_n C 1 (D (14, .iload_n 1, 1) (mg 8 rfl)) rfl rfl ?_
    refine X_cV (As := [.int (nI (j))]) (st := []) C (post := _) (n) (by omega) hsn rfl (ct_X1_depthIn hw (n := n) hN (j := j) (by omega) (u2 h (n) 3 (nI (j))) g) kX1_44 (by decide) (by decide) rfl rfl (Nat.le_of_ble_eq_true rfl) (D (15, .invokevirtual 44, 3) (mg 9 rfl)) rfl (fun v7 H5 G6 hv7 => ?_)
    obtain ⟨rfl, rfl, rfl⟩ := hv7
    show X k w _ 18 [some (.ref (wA w (n))), some (.int (nI (j))), none, none] [.int (cD ((u2 h (n) 3 (nI (j))) (n + 2) (j)))] (u2 h (n) 3 (nI (j))) g
    refine X_istore_n (ls' := [some (.ref (wA w (n))), some (.int (nI (j))), some (.int (cD ((u2 h (n) 3 (nI (j))) (n + 2) (j)))), none]) C 2 (D (18, .istore_n 2, 1) (mg 10 rfl)) rfl (Nat.le_of_ble_eq_true rfl) rfl ?_
    refine X_aload_n C 0 (D (19, .aload_n 0, 1) (mg 11 rfl)) rfl rfl ?_
    refine X_get (v := .int ((u2 h (n) 3 (nI (j))) (n) 2)) C (n) 2 (by omega) hsn rfl rfl (by decide) inX1 fX1_24 rfl (D (20, .getfield 24, 3) (mg 12 rfl)) rfl ?_
    refine X_iload_n C 2 (D (23, .iload_n 2, 1) (mg 13 rfl)) rfl rfl ?_
    refine X_aload_n C 0 (D (24, .aload_n 0, 1) (mg 14 rfl)) rfl rfl ?_
    refine X_get (v := .ref (wA w (n + 1))) C (n) 0 (by omega) hsn rfl rfl (by decide) inX1 fX1_9 rfl (D (25, .getfield 9, 3) (mg 15 rfl)) rfl ?_
    refine X_iload_n C 1 (D (28, .iload_n 1, 1) (mg 16 rfl)) rfl rfl ?_
    refine X_iald (v := (u2 h (n) 3 (nI (j))) (n + 1) (j)) C (n + 1) (by omega) hs1 (vp_in_nI (by omega) (by omega)) (D (29, .iaload, 1) (mg 17 rfl)) (by rw [nI_clamp (by omega)]) ?_
    refine X_cS (As := [.int ((u2 h (n) 3 (nI (j))) (n) 2), .int (cD ((u2 h (n) 3 (nI (j))) (n + 2) (j))), .int ((u2 h (n) 3 (nI (j))) (n + 1) (j))]) (st := []) C (post := _) (ct_X0_depthAfter hw ((u2 h (n) 3 (nI (j))) (n) 2) (cD ((u2 h (n) 3 (nI (j))) (n + 2) (j))) ((u2 h (n) 3 (nI (j))) (n + 1) (j)) (u2 h (n) 3 (nI (j))) g) kX1_77 (by decide) (by decide) rfl rfl (Nat.le_of_ble_eq_true rfl) (D (30, .invokestatic 77, 3) (mg 18 rfl)) rfl (fun v10 H8 G9 hv10 => ?_)
    obtain ⟨rfl, rfl, rfl⟩ := hv10
    show X k w _ 33 [some (.ref (wA w (n))), some (.int (nI (j))), some (.int (cD ((u2 h (n) 3 (nI (j))) (n + 2) (j)))), none] [.int (daC ((u2 h (n) 3 (nI (j))) (n) 2) (cD ((u2 h (n) 3 (nI (j))) (n + 2) (j))) ((u2 h (n) 3 (nI (j))) (n + 1) (j)))] (u2 h (n) 3 (nI (j))) g
    refine X_iload_n C 2 (D (33, .iload_n 2, 1) (mg 19 rfl)) rfl rfl ?_
    refine X_isub C (D (34, .isub, 1) (mg 20 rfl)) ?_
    refine X_istore_n (ls' := [some (.ref (wA w (n))), some (.int (nI (j))), some (.int (cD ((u2 h (n) 3 (nI (j))) (n + 2) (j)))), some (.int ((daC ((u2 h (n) 3 (nI (j))) (n) 2) (cD ((u2 h (n) 3 (nI (j))) (n + 2) (j))) ((u2 h (n) 3 (nI (j))) (n + 1) (j))) - (cD ((u2 h (n) 3 (nI (j))) (n + 2) (j)))))]) C 3 (D (35, .istore_n 3, 1) (mg 21 rfl)) rfl (Nat.le_of_ble_eq_true rfl) rfl ?_
    refine X_aload_n C 0 (D (36, .aload_n 0, 1) (mg 22 rfl)) rfl rfl ?_
    refine X_get (v := .ref (wA w (n + 2))) C (n) 1 (by omega) hsn rfl rfl (by decide) inX1 fX1_15 rfl (D (37, .getfield 15, 3) (mg 23 rfl)) rfl ?_
    refine X_iload_n C 1 (D (40, .iload_n 1, 1) (mg 24 rfl)) rfl rfl ?_
    refine X_dup2 C (D (41, .dup2, 1) (mg 25 rfl)) rfl rfl ?_
    refine X_iald (v := (u2 h (n) 3 (nI (j))) (n + 2) (j)) C (n + 2) (by omega) hs2 (vp_in_nI (by omega) (by omega)) (D (42, .iaload, 1) (mg 26 rfl)) (by rw [nI_clamp (by omega)]) ?_
    refine X_bipush (v := nI (100)) C (D (43, .bipush 100, 2) (mg 27 rfl)) (by decide) ?_
    refine X_iload_n C 3 (D (45, .iload_n 3, 1) (mg 28 rfl)) rfl rfl ?_
    refine X_imul C (D (46, .imul, 1) (mg 29 rfl)) ?_
    refine X_iadd C (D (47, .iadd, 1) (mg 30 rfl)) ?_
    refine X_iast (j := j) C (n + 2) (by omega) hs2 (vp_in_nI (by omega) (by omega)) (D (48, .iastore, 1) (mg 31 rfl)) (nI_clamp (by omega)) ?_
    exact X_vret C (D (49, .return_, 1) (mg 32 rfl)) ⟨rfl, (if_pos (by assumption)), rfl⟩
set_option maxHeartbeats 4000000 in
set_option maxRecDepth 100000 in
theorem ct_X1_passWeek {l : Launch} {w : Kw} (hw : wOk w) {n : Nat} (hN : shN w n) (h : xI) (g : xJ)  : Ct l w yX1_passWeek cX1_passWeek 2 none 2 42 [.ref (wA w (n))] h g (px none (cwH h n) g) := by
  refine Ct_of (ls := [some (.ref (wA w (n))), none]) (by decide) hw (Nat.le_of_ble_eq_true rfl) rfl (fun k hkl C => ?_)
  have C : Cx k w cX1_passWeek RX1 2 none 2 42 := C
  have D := dtX1_passWeek
  subst hkl
  have hN0 := hN
  obtain ⟨hn, hsn, hs1, hs2⟩ := hN
  have hN := hN0
  refine X_iconst (v := nI (0)) C (D (0, .iconst 0, 1) (mg 0 rfl)) (by decide) ?_
  refine X_istore_n (ls' := [some (.ref (wA w (n))), some (.int (nI (0)))]) C 1 (D (1, .istore_n 1, 1) (mg 1 rfl)) rfl (Nat.le_of_ble_eq_true rfl) rfl ?_
  have lp2 : ∀ (nn2 : Nat) (j : Nat), (j ≤ 25) → 26 - j ≤ nn2 → X k w (Zq k w (px none (cwH h n) g)) 2 [some (.ref (wA w (n))), some (.int (nI (j)))] [] (mp h (n + 2) 0 (j) cwk) g := by
    intro nn2
    induction nn2 with
    | zero => intro j hc2_0 hz; exact absurd hz (by omega)
    | succ nn2 ih2 =>
      intro j hc2_0 hz2
      refine X_iload_n C 1 (D (2, .iload_n 1, 1) (mg 2 rfl)) rfl rfl ?_
      refine X_bipush (v := nI (25)) C (D (3, .bipush 25, 2) (mg 3 rfl)) (by decide) ?_
      refine X_icmp_ge (tgt := 58) C (D (5, .if_icmp .ge 53, 3) (mg 4 rfl)) (by decide) (fun q1 => ?_) (fun q1 => ?_)
      · skip
        have q1 : (j) ≥ (25) := by have z := (nI_leI (a := (25)) (b := (j)) (by omega) (by omega)).mp q1; omega
        refine X_aload_n C 0 (D (58, .aload_n 0, 1) (mg 32 rfl)) rfl rfl ?_
        refine X_dup C (D (59, .dup, 1) (mg 33 rfl)) rfl ?_
        refine X_get (v := .int ((mp h (n + 2) 0 (j) cwk) (n) 4)) C (n) 4 (by omega) hsn rfl rfl (by decide) inX1 fX1_31 rfl (D (60, .getfield 31, 3) (mg 34 rfl)) rfl ?_
        refine X_iconst (v := nI (1)) C (D (63, .iconst 1, 1) (mg 35 rfl)) (by decide) ?_
        refine X_iadd C (D (64, .iadd, 1) (mg 36 rfl)) ?_
        refine X_putI C (n) 4 tyX1 tyX1_ok nmX1 (by omega) hsn rfl rfl (by decide) inX1 fX1_31 rfl rfl (by decide +kernel) (D (65, .putfield 31, 3) (mg 37 rfl)) ?_
        exact X_vret C (D (68, .return_, 1) (mg 38 rfl)) ⟨rfl, by rw [show j = 25 by omega]; rfl, rfl⟩
      · skip
        have q1 : (j) < (25) := by have z : ¬ ((25) ≤ (j)) := fun u => q1 ((nI_leI (a := (25)) (b := (j)) (by omega) (by omega)).mpr u); omega
        refine X_aload_n C 0 (D (8, .aload_n 0, 1) (mg 5 rfl)) rfl rfl ?_
        refine X_iload_n C 1 (D (9, .iload_n 1, 1) (mg 6 rfl)) rfl rfl ?_
        refine X_cV (As := [.int (nI (j))]) (st := []) C (post := _) (n) (by omega) hsn rfl (ct_X1_depthIn hw (n := n) hN (j := j) (by omega) (mp h (n + 2) 0 (j) cwk) g) kX1_44 (by decide) (by decide) rfl rfl (Nat.le_of_ble_eq_true rfl) (D (10, .invokevirtual 44, 3) (mg 7 rfl)) rfl (fun v4 H2 G3 hv4 => ?_)
        obtain ⟨rfl, rfl, rfl⟩ := hv4
        show X k w _ 13 [some (.ref (wA w (n))), some (.int (nI (j)))] [.int (cD ((mp h (n + 2) 0 (j) cwk) (n + 2) (j)))] (mp h (n + 2) 0 (j) cwk) g
        refine X_if_ne (tgt := 24) C (D (13, .ifCond .ne 11, 3) (mg 8 rfl)) (by decide) (fun q5 => ?_) (fun q5 => ?_)
        · skip
          refine X_aload_n C 0 (D (24, .aload_n 0, 1) (mg 13 rfl)) rfl rfl ?_
          refine X_iload_n C 1 (D (25, .iload_n 1, 1) (mg 14 rfl)) rfl rfl ?_
          refine X_cV (As := [.int (nI (j))]) (st := []) C (post := _) (n) (by omega) hsn rfl (ct_X1_liesIn hw (n := n) hN (j := j) (by omega) (mp h (n + 2) 0 (j) cwk) g) kX1_40 (by decide) (by decide) rfl rfl (Nat.le_of_ble_eq_true rfl) (D (26, .invokevirtual 40, 3) (mg 15 rfl)) rfl (fun v8 H6 G7 hv8 => ?_)
          obtain ⟨rfl, rfl, rfl⟩ := hv8
          show X k w _ 29 [some (.ref (wA w (n))), some (.int (nI (j)))] [.int (if ¬ (mp h (n + 2) 0 (j) cwk) (n + 2) (j) = (-1 : Int32) then 1 else 0)] (mp h (n + 2) 0 (j) cwk) g
          refine X_if_eq (tgt := 52) C (D (29, .ifCond .eq 23, 3) (mg 16 rfl)) (by decide) (fun q9 => ?_) (fun q9 => ?_)
          · skip
            have q9 : ¬ (¬ (mp h (n + 2) 0 (j) cwk) (n + 2) (j) = (-1 : Int32)) := bz0.mp q9
            refine X_iinc (v := nI (j + 1)) (ls' := [some (.ref (wA w (n))), some (.int (nI (j + 1)))]) C (D (52, .iinc 1 1, 3) (mg 30 rfl)) rfl (nI_add (j) 1) rfl ?_
            refine X_goto (tgt := 2) C (D (55, .goto (-53), 3) (mg 31 rfl)) (by decide) ?_
            refine X_eq (ls' := [some (.ref (wA w (n))), some (.int (nI (j + 1)))]) (st' := []) (h' := (mp h (n + 2) 0 (j + 1) cwk)) (g' := g) rfl rfl (mp_k h (n + 2) 0 (j) cwk (by rw [Nat.zero_add]; first | exact ((if_neg (by assumption)).trans (if_neg (by assumption))) | exact (((if_neg (by assumption)).trans (if_pos (by assumption))).trans (if_pos (by assumption))))) rfl ?_
            exact ih2 (j + 1) (by omega) (by omega)
          · skip
            have q9 : (¬ (mp h (n + 2) 0 (j) cwk) (n + 2) (j) = (-1 : Int32)) := bz1.mp q9
            refine X_aload_n C 0 (D (32, .aload_n 0, 1) (mg 17 rfl)) rfl rfl ?_
            refine X_iload_n C 1 (D (33, .iload_n 1, 1) (mg 18 rfl)) rfl rfl ?_
            refine X_cV (As := [.int (nI (j))]) (st := []) C (post := _) (n) (by omega) hsn rfl (ct_X1_ageIn hw (n := n) hN (j := j) (by omega) (mp h (n + 2) 0 (j) cwk) g) kX1_57 (by decide) (by decide) rfl rfl (Nat.le_of_ble_eq_true rfl) (D (34, .invokevirtual 57, 3) (mg 19 rfl)) rfl (fun v12 H10 G11 hv12 => ?_)
            obtain ⟨rfl, rfl, rfl⟩ := hv12
            show X k w _ 37 [some (.ref (wA w (n))), some (.int (nI (j)))] [.int (cA ((mp h (n + 2) 0 (j) cwk) (n + 2) (j)))] (mp h (n + 2) 0 (j) cwk) g
            refine X_bipush (v := nI (99)) C (D (37, .bipush 99, 2) (mg 20 rfl)) (by decide) ?_
            refine X_icmp_ge (tgt := 52) C (D (39, .if_icmp .ge 13, 3) (mg 21 rfl)) (by decide) (fun q13 => ?_) (fun q13 => ?_)
            · skip
              refine X_iinc (v := nI (j + 1)) (ls' := [some (.ref (wA w (n))), some (.int (nI (j + 1)))]) C (D (52, .iinc 1 1, 3) (mg 30 rfl)) rfl (nI_add (j) 1) rfl ?_
              refine X_goto (tgt := 2) C (D (55, .goto (-53), 3) (mg 31 rfl)) (by decide) ?_
              refine X_eq (ls' := [some (.ref (wA w (n))), some (.int (nI (j + 1)))]) (st' := []) (h' := (mp h (n + 2) 0 (j + 1) cwk)) (g' := g) rfl rfl (mp_k h (n + 2) 0 (j) cwk (by rw [Nat.zero_add]; first | exact ((if_neg (by assumption)).trans (if_neg (by assumption))) | exact (((if_neg (by assumption)).trans (if_pos (by assumption))).trans (if_pos (by assumption))))) rfl ?_
              exact ih2 (j + 1) (by omega) (by omega)
            · skip
              refine X_aload_n C 0 (D (42, .aload_n 0, 1) (mg 22 rfl)) rfl rfl ?_
              refine X_get (v := .ref (wA w (n + 2))) C (n) 1 (by omega) hsn rfl rfl (by decide) inX1 fX1_15 rfl (D (43, .getfield 15, 3) (mg 23 rfl)) rfl ?_
              refine X_iload_n C 1 (D (46, .iload_n 1, 1) (mg 24 rfl)) rfl rfl ?_
              refine X_dup2 C (D (47, .dup2, 1) (mg 25 rfl)) rfl rfl ?_
              refine X_iald (v := (mp h (n + 2) 0 (j) cwk) (n + 2) (j)) C (n + 2) (by omega) hs2 (vp_in_nI (by omega) (by omega)) (D (48, .iaload, 1) (mg 26 rfl)) (by rw [nI_clamp (by omega)]) ?_
              refine X_iconst (v := nI (1)) C (D (49, .iconst 1, 1) (mg 27 rfl)) (by decide) ?_
              refine X_iadd C (D (50, .iadd, 1) (mg 28 rfl)) ?_
              refine X_iast (j := j) C (n + 2) (by omega) hs2 (vp_in_nI (by omega) (by omega)) (D (51, .iastore, 1) (mg 29 rfl)) (nI_clamp (by omega)) ?_
              refine X_iinc (v := nI (j + 1)) (ls' := [some (.ref (wA w (n))), some (.int (nI (j + 1)))]) C (D (52, .iinc 1 1, 3) (mg 30 rfl)) rfl (nI_add (j) 1) rfl ?_
              refine X_goto (tgt := 2) C (D (55, .goto (-53), 3) (mg 31 rfl)) (by decide) ?_
              refine X_eq (ls' := [some (.ref (wA w (n))), some (.int (nI (j + 1)))]) (st' := []) (h' := (mp h (n + 2) 0 (j + 1) cwk)) (g' := g) rfl rfl (by have z := mp_s h (n + 2) 0 (j) cwk (v := mp h (n + 2) 0 (j) cwk (n + 2) (j) + nI 1) (by rw [Nat.zero_add]; exact (((if_neg (by assumption)).trans (if_pos (by assumption))).trans (if_neg (by assumption)))); rw [Nat.zero_add] at z; exact z) rfl ?_
              exact ih2 (j + 1) (by omega) (by omega)
        · skip
          refine X_aload_n C 0 (D (16, .aload_n 0, 1) (mg 9 rfl)) rfl rfl ?_
          refine X_iload_n C 1 (D (17, .iload_n 1, 1) (mg 10 rfl)) rfl rfl ?_
          refine X_cV (As := [.int (nI (j))]) (st := []) C (post := _) (n) (by omega) hsn rfl (ct_X1_take hw (n := n) hN (j := j) (by omega) (mp h (n + 2) 0 (j) cwk) g) kX1_80 (by decide) (by decide) rfl rfl (Nat.le_of_ble_eq_true rfl) (D (18, .invokevirtual 80, 3) (mg 11 rfl)) rfl (fun v16 H14 G15 hv16 => ?_)
          obtain ⟨rfl, rfl, rfl⟩ := hv16
          show X k w _ 21 [some (.ref (wA w (n))), some (.int (nI (j)))] [] (u2 (mp h (n + 2) 0 (j) cwk) (n + 2) (j) (-1 : Int32)) g
          refine X_goto (tgt := 52) C (D (21, .goto 31, 3) (mg 12 rfl)) (by decide) ?_
          refine X_iinc (v := nI (j + 1)) (ls' := [some (.ref (wA w (n))), some (.int (nI (j + 1)))]) C (D (52, .iinc 1 1, 3) (mg 30 rfl)) rfl (nI_add (j) 1) rfl ?_
          refine X_goto (tgt := 2) C (D (55, .goto (-53), 3) (mg 31 rfl)) (by decide) ?_
          refine X_eq (ls' := [some (.ref (wA w (n))), some (.int (nI (j + 1)))]) (st' := []) (h' := (mp h (n + 2) 0 (j + 1) cwk)) (g' := g) rfl rfl (by have z := mp_s h (n + 2) 0 (j) cwk (v := (-1 : Int32)) (by rw [Nat.zero_add]; exact if_pos (by assumption)); rw [Nat.zero_add] at z; exact z) rfl ?_
          exact ih2 (j + 1) (by omega) (by omega)
  refine X_eq (ls' := [some (.ref (wA w (n))), some (.int (nI (0)))]) (st' := []) (h' := (mp h (n + 2) 0 (0) cwk)) (g' := g) rfl rfl (mp_0 h (n + 2) 0 cwk).symm rfl ?_
  exact lp2 _ (0) (by omega) (Nat.le_refl _)
