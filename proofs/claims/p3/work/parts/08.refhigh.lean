/-! THE REFERENCE, 2: how high, how deep, steps, weeks -/
set_option maxHeartbeats 4000000 in
set_option maxRecDepth 100000 in
theorem ct_X8_has {l : Launch} {w : Kw} (hw : wOk w) (x y : Int32) (h : xI) (g : xJ) : Ct l w yX8_has cX8_has 2 (some .boolean) 0 0 [.int (x), .int (y)] h g (px (some (.int (if (x >>> (y &&& 31)) &&& nI 1 = nI 1 then 1 else 0))) h g) := by
  refine Ct_of (ls := [some (.int (x)), some (.int (y))]) (by decide) hw (Nat.le_of_ble_eq_true rfl) rfl (fun k hkl C => ?_)
  have C : Cx k w cX8_has RX8 2 (some .boolean) 0 0 := C
  have D := dtX8_has
  subst hkl
  refine X_iload_n C 0 (D (0, .iload_n 0, 1) (mg 0 rfl)) rfl rfl ?_
  refine X_iload_n C 1 (D (1, .iload_n 1, 1) (mg 1 rfl)) rfl rfl ?_
  refine X_ishr C (D (2, .ishr, 1) (mg 2 rfl)) ?_
  refine X_iconst (v := nI (1)) C (D (3, .iconst 1, 1) (mg 3 rfl)) (by decide) ?_
  refine X_iand C (D (4, .iand, 1) (mg 4 rfl)) ?_
  refine X_iconst (v := nI (1)) C (D (5, .iconst 1, 1) (mg 5 rfl)) (by decide) ?_
  refine X_icmp_ne (tgt := 13) C (D (6, .if_icmp .ne 7, 3) (mg 6 rfl)) (by decide) (fun q1 => ?_) (fun q1 => ?_)
  · skip
    refine X_iconst (v := nI (0)) C (D (13, .iconst 0, 1) (mg 9 rfl)) (by decide) ?_
    exact X_zret C (D (14, .ireturn, 1) (mg 10 rfl)) rfl ⟨pf ‹_›, rfl, rfl⟩
  · skip
    refine X_iconst (v := nI (1)) C (D (9, .iconst 1, 1) (mg 7 rfl)) (by decide) ?_
    refine X_goto (tgt := 14) C (D (10, .goto 4, 3) (mg 8 rfl)) (by decide) ?_
    exact X_zret C (D (14, .ireturn, 1) (mg 10 rfl)) rfl ⟨pt ‹_›, rfl, rfl⟩
def hSer (d a : Int32) : Int32 := if nI 1 ≤ d then (if a ≤ nI 9 then a else nI 9) else nI 0
def hGr (x : Int32) : Int32 := if x < nI 1 then nI 0 else x + nI 2
def hHot (d x : Int32) : Int32 := if d < nI 4 then x else nI 2 * x
def hLaud (a x : Int32) : Int32 := if nI 6 ≤ a then x else nI 0
def hVer (d x : Int32) : Int32 := if nI 1 ≤ x then (if nI 1 ≤ x - d then x - d else nI 1) else nI 0
/-- how high a KIND stands, d deep, a old -/
def hiA (k d a : Int32) : Int32 := if k = 1 then hGr (hSer d a) else if k = 2 then hHot d (hSer d a) else if k = 3 then hLaud a (hHot d (hSer d a)) else if k = 4 then hSer d a / nI 2 else if k = 5 then hVer d (hGr (hSer d a)) else hSer d a
theorem hiA_o {k d a : Int32} (h : k.toInt < 1 ∨ 5 < k.toInt) : hiA k d a = hSer d a := by
  have e : ∀ y : Int32, k = y → k.toInt = y.toInt := fun y q => by rw [q]
  unfold hiA
  rw [if_neg (fun q => by have := e _ q; rw [show (1 : Int32).toInt = 1 from by decide] at this; omega), if_neg (fun q => by have := e _ q; rw [show (2 : Int32).toInt = 2 from by decide] at this; omega), if_neg (fun q => by have := e _ q; rw [show (3 : Int32).toInt = 3 from by decide] at this; omega), if_neg (fun q => by have := e _ q; rw [show (4 : Int32).toInt = 4 from by decide] at this; omega), if_neg (fun q => by have := e _ q; rw [show (5 : Int32).toInt = 5 from by decide] at this; omega)]
theorem sw_1_5 (x : Int32) : x = 1 ∨ x = 2 ∨ x = 3 ∨ x = 4 ∨ x = 5 ∨ (x.toInt < 1 ∨ 5 < x.toInt) := by
  have e : ∀ y : Int32, x = y ↔ x.toInt = y.toInt := fun y => Int32.toInt_inj.symm
  simp only [e, show (1 : Int32).toInt = 1 from by decide, show (2 : Int32).toInt = 2 from by decide, show (3 : Int32).toInt = 3 from by decide, show (4 : Int32).toInt = 4 from by decide, show (5 : Int32).toInt = 5 from by decide]
  omega
set_option maxHeartbeats 4000000 in
set_option maxRecDepth 100000 in
theorem ct_X8_highAs {l : Launch} {w : Kw} (hw : wOk w) (kd d a : Int32) (h : xI) (g : xJ) : Ct l w yX8_highAs cX8_highAs 6 (some .int) 0 0 [.int (kd), .int (d), .int (a)] h g (px (some (.int (hiA kd d a))) h g) := by
  refine Ct_of (ls := [some (.int (kd)), some (.int (d)), some (.int (a)), none, none, none]) (by decide) hw (Nat.le_of_ble_eq_true rfl) rfl (fun k hkl C => ?_)
  have C : Cx k w cX8_highAs RX8 6 (some .int) 0 0 := C
  have D := dtX8_highAs
  subst hkl
  have jn50 : X k w (Zq k w (px (some (.int (hiA kd d a))) h g)) 50 [some (.int (kd)), some (.int (d)), some (.int (a)), some (.int (hSer d a)), some (.int (hGr (hSer d a))), some (.int (hHot d (hSer d a)))] [] h g := by
    refine X_iload_n C 0 (D (50, .iload_n 0, 1) (mg 30 rfl)) rfl rfl ?_
    rcases sw_1_5 (kd) with q1 | q1 | q1 | q1 | q1 | q1
    · refine X_swIn (tgt := 84) C (D (51, .tableswitch 83 1 5 #[33, 36, 39, 52, 56], 33) (mg 31 rfl)) (1) (by rw [q1]; decide) (by decide) (by decide) rfl (by decide) ?_
      refine X_iload C (D (84, .iload 4, 2) (mg 32 rfl)) rfl ?_
      exact X_iret C (D (86, .ireturn, 1) (mg 33 rfl)) ⟨congrArg (fun z => some (Value.int z)) (by subst ‹kd = 1›; rfl : hiA kd d a = hGr (hSer d a)), rfl, rfl⟩
    · refine X_swIn (tgt := 87) C (D (51, .tableswitch 83 1 5 #[33, 36, 39, 52, 56], 33) (mg 31 rfl)) (2) (by rw [q1]; decide) (by decide) (by decide) rfl (by decide) ?_
      refine X_iload C (D (87, .iload 5, 2) (mg 34 rfl)) rfl ?_
      exact X_iret C (D (89, .ireturn, 1) (mg 35 rfl)) ⟨congrArg (fun z => some (Value.int z)) (by subst ‹kd = 2›; rfl : hiA kd d a = hHot d (hSer d a)), rfl, rfl⟩
    · refine X_swIn (tgt := 90) C (D (51, .tableswitch 83 1 5 #[33, 36, 39, 52, 56], 33) (mg 31 rfl)) (3) (by rw [q1]; decide) (by decide) (by decide) rfl (by decide) ?_
      refine X_iload_n C 2 (D (90, .iload_n 2, 1) (mg 36 rfl)) rfl rfl ?_
      refine X_bipush (v := nI (6)) C (D (91, .bipush 6, 2) (mg 37 rfl)) (by decide) ?_
      refine X_icmp_ge (tgt := 100) C (D (93, .if_icmp .ge 7, 3) (mg 38 rfl)) (by decide) (fun q2 => ?_) (fun q2 => ?_)
      · skip
        refine X_iload C (D (100, .iload 5, 2) (mg 41 rfl)) rfl ?_
        exact X_iret C (D (102, .ireturn, 1) (mg 42 rfl)) ⟨congrArg (fun z => some (Value.int z)) ((by subst ‹kd = 3›; rfl : hiA kd d a = hLaud a (hHot d (hSer d a))).trans (if_pos (by assumption))), rfl, rfl⟩
      · skip
        refine X_iconst (v := nI (0)) C (D (96, .iconst 0, 1) (mg 39 rfl)) (by decide) ?_
        refine X_goto (tgt := 102) C (D (97, .goto 5, 3) (mg 40 rfl)) (by decide) ?_
        exact X_iret C (D (102, .ireturn, 1) (mg 42 rfl)) ⟨congrArg (fun z => some (Value.int z)) ((by subst ‹kd = 3›; rfl : hiA kd d a = hLaud a (hHot d (hSer d a))).trans (if_neg (by assumption))), rfl, rfl⟩
    · refine X_swIn (tgt := 103) C (D (51, .tableswitch 83 1 5 #[33, 36, 39, 52, 56], 33) (mg 31 rfl)) (4) (by rw [q1]; decide) (by decide) (by decide) rfl (by decide) ?_
      refine X_iload_n C 3 (D (103, .iload_n 3, 1) (mg 43 rfl)) rfl rfl ?_
      refine X_iconst (v := nI (2)) C (D (104, .iconst 2, 1) (mg 44 rfl)) (by decide) ?_
      refine X_idiv C (D (105, .idiv, 1) (mg 45 rfl)) (by decide) ?_
      exact X_iret C (D (106, .ireturn, 1) (mg 46 rfl)) ⟨congrArg (fun z => some (Value.int z)) (by subst ‹kd = 4›; rfl : hiA kd d a = hSer d a / nI 2), rfl, rfl⟩
    · refine X_swIn (tgt := 107) C (D (51, .tableswitch 83 1 5 #[33, 36, 39, 52, 56], 33) (mg 31 rfl)) (5) (by rw [q1]; decide) (by decide) (by decide) rfl (by decide) ?_
      refine X_iload C (D (107, .iload 4, 2) (mg 47 rfl)) rfl ?_
      refine X_iconst (v := nI (1)) C (D (109, .iconst 1, 1) (mg 48 rfl)) (by decide) ?_
      refine X_icmp_ge (tgt := 117) C (D (110, .if_icmp .ge 7, 3) (mg 49 rfl)) (by decide) (fun q3 => ?_) (fun q3 => ?_)
      · skip
        refine X_iload C (D (117, .iload 4, 2) (mg 52 rfl)) rfl ?_
        refine X_iload_n C 1 (D (119, .iload_n 1, 1) (mg 53 rfl)) rfl rfl ?_
        refine X_isub C (D (120, .isub, 1) (mg 54 rfl)) ?_
        refine X_iconst (v := nI (1)) C (D (121, .iconst 1, 1) (mg 55 rfl)) (by decide) ?_
        refine X_icmp_ge (tgt := 129) C (D (122, .if_icmp .ge 7, 3) (mg 56 rfl)) (by decide) (fun q4 => ?_) (fun q4 => ?_)
        · skip
          refine X_iload C (D (129, .iload 4, 2) (mg 59 rfl)) rfl ?_
          refine X_iload_n C 1 (D (131, .iload_n 1, 1) (mg 60 rfl)) rfl rfl ?_
          refine X_isub C (D (132, .isub, 1) (mg 61 rfl)) ?_
          exact X_iret C (D (133, .ireturn, 1) (mg 62 rfl)) ⟨congrArg (fun z => some (Value.int z)) ((by subst ‹kd = 5›; rfl : hiA kd d a = hVer d (hGr (hSer d a))).trans ((if_pos (by assumption)).trans (if_pos (by assumption)))), rfl, rfl⟩
        · skip
          refine X_iconst (v := nI (1)) C (D (125, .iconst 1, 1) (mg 57 rfl)) (by decide) ?_
          refine X_goto (tgt := 133) C (D (126, .goto 7, 3) (mg 58 rfl)) (by decide) ?_
          exact X_iret C (D (133, .ireturn, 1) (mg 62 rfl)) ⟨congrArg (fun z => some (Value.int z)) ((by subst ‹kd = 5›; rfl : hiA kd d a = hVer d (hGr (hSer d a))).trans ((if_pos (by assumption)).trans (if_neg (by assumption)))), rfl, rfl⟩
      · skip
        refine X_iconst (v := nI (0)) C (D (113, .iconst 0, 1) (mg 50 rfl)) (by decide) ?_
        refine X_goto (tgt := 133) C (D (114, .goto 19, 3) (mg 51 rfl)) (by decide) ?_
        exact X_iret C (D (133, .ireturn, 1) (mg 62 rfl)) ⟨congrArg (fun z => some (Value.int z)) ((by subst ‹kd = 5›; rfl : hiA kd d a = hVer d (hGr (hSer d a))).trans (if_neg (by assumption))), rfl, rfl⟩
    · refine X_swOut (tgt := 134) C (D (51, .tableswitch 83 1 5 #[33, 36, 39, 52, 56], 33) (mg 31 rfl)) q1 (by decide) ?_
      refine X_iload_n C 3 (D (134, .iload_n 3, 1) (mg 63 rfl)) rfl rfl ?_
      exact X_iret C (D (135, .ireturn, 1) (mg 64 rfl)) ⟨by rw [hiA_o ‹_›], rfl, rfl⟩
  have jn48 : X k w (Zq k w (px (some (.int (hiA kd d a))) h g)) 48 [some (.int (kd)), some (.int (d)), some (.int (a)), some (.int (hSer d a)), some (.int (hGr (hSer d a))), none] [.int (hHot d (hSer d a))] h g := by
    refine X_istore (ls' := [some (.int (kd)), some (.int (d)), some (.int (a)), some (.int (hSer d a)), some (.int (hGr (hSer d a))), some (.int (hHot d (hSer d a)))]) C (D (48, .istore 5, 2) (mg 29 rfl)) (Nat.le_of_ble_eq_true rfl) rfl ?_
    refine X_eq (ls' := [some (.int (kd)), some (.int (d)), some (.int (a)), some (.int (hSer d a)), some (.int (hGr (hSer d a))), some (.int (hHot d (hSer d a)))]) (st' := []) (h' := h) (g' := g) rfl rfl rfl rfl ?_
    exact jn50  
  have jn34 : X k w (Zq k w (px (some (.int (hiA kd d a))) h g)) 34 [some (.int (kd)), some (.int (d)), some (.int (a)), some (.int (hSer d a)), none, none] [.int (hGr (hSer d a))] h g := by
    refine X_istore (ls' := [some (.int (kd)), some (.int (d)), some (.int (a)), some (.int (hSer d a)), some (.int (hGr (hSer d a))), none]) C (D (34, .istore 4, 2) (mg 20 rfl)) (Nat.le_of_ble_eq_true rfl) rfl ?_
    refine X_iload_n C 1 (D (36, .iload_n 1, 1) (mg 21 rfl)) rfl rfl ?_
    refine X_iconst (v := nI (4)) C (D (37, .iconst 4, 1) (mg 22 rfl)) (by decide) ?_
    refine X_icmp_lt (tgt := 47) C (D (38, .if_icmp .lt 9, 3) (mg 23 rfl)) (by decide) (fun q5 => ?_) (fun q5 => ?_)
    · skip
      refine X_iload_n C 3 (D (47, .iload_n 3, 1) (mg 28 rfl)) rfl rfl ?_
      refine X_eq (ls' := [some (.int (kd)), some (.int (d)), some (.int (a)), some (.int (hSer d a)), some (.int (hGr (hSer d a))), none]) (st' := [.int (hHot d (hSer d a))]) (h' := h) (g' := g) rfl (congrArg (fun z => [Value.int z]) (Eq.symm (a := hHot d (hSer d a)) (if_pos (by assumption)))) rfl rfl ?_
      exact jn48  
    · skip
      refine X_iconst (v := nI (2)) C (D (41, .iconst 2, 1) (mg 24 rfl)) (by decide) ?_
      refine X_iload_n C 3 (D (42, .iload_n 3, 1) (mg 25 rfl)) rfl rfl ?_
      refine X_imul C (D (43, .imul, 1) (mg 26 rfl)) ?_
      refine X_goto (tgt := 48) C (D (44, .goto 4, 3) (mg 27 rfl)) (by decide) ?_
      refine X_eq (ls' := [some (.int (kd)), some (.int (d)), some (.int (a)), some (.int (hSer d a)), some (.int (hGr (hSer d a))), none]) (st' := [.int (hHot d (hSer d a))]) (h' := h) (g' := g) rfl (congrArg (fun z => [Value.int z]) (Eq.symm (a := hHot d (hSer d a)) (if_neg (by assumption)))) rfl rfl ?_
      exact jn48  
  have jn21 : X k w (Zq k w (px (some (.int (hiA kd d a))) h g)) 21 [some (.int (kd)), some (.int (d)), some (.int (a)), none, none, none] [.int (hSer d a)] h g := by
    refine X_istore_n (ls' := [some (.int (kd)), some (.int (d)), some (.int (a)), some (.int (hSer d a)), none, none]) C 3 (D (21, .istore_n 3, 1) (mg 11 rfl)) rfl (Nat.le_of_ble_eq_true rfl) rfl ?_
    refine X_iload_n C 3 (D (22, .iload_n 3, 1) (mg 12 rfl)) rfl rfl ?_
    refine X_iconst (v := nI (1)) C (D (23, .iconst 1, 1) (mg 13 rfl)) (by decide) ?_
    refine X_icmp_lt (tgt := 33) C (D (24, .if_icmp .lt 9, 3) (mg 14 rfl)) (by decide) (fun q6 => ?_) (fun q6 => ?_)
    · skip
      refine X_iconst (v := nI (0)) C (D (33, .iconst 0, 1) (mg 19 rfl)) (by decide) ?_
      refine X_eq (ls' := [some (.int (kd)), some (.int (d)), some (.int (a)), some (.int (hSer d a)), none, none]) (st' := [.int (hGr (hSer d a))]) (h' := h) (g' := g) rfl (congrArg (fun z => [Value.int z]) (Eq.symm (a := hGr (hSer d a)) (if_pos (by assumption)))) rfl rfl ?_
      exact jn34  
    · skip
      refine X_iload_n C 3 (D (27, .iload_n 3, 1) (mg 15 rfl)) rfl rfl ?_
      refine X_iconst (v := nI (2)) C (D (28, .iconst 2, 1) (mg 16 rfl)) (by decide) ?_
      refine X_iadd C (D (29, .iadd, 1) (mg 17 rfl)) ?_
      refine X_goto (tgt := 34) C (D (30, .goto 4, 3) (mg 18 rfl)) (by decide) ?_
      refine X_eq (ls' := [some (.int (kd)), some (.int (d)), some (.int (a)), some (.int (hSer d a)), none, none]) (st' := [.int (hGr (hSer d a))]) (h' := h) (g' := g) rfl (congrArg (fun z => [Value.int z]) (Eq.symm (a := hGr (hSer d a)) (if_neg (by assumption)))) rfl rfl ?_
      exact jn34  
  refine X_iload_n C 1 (D (0, .iload_n 1, 1) (mg 0 rfl)) rfl rfl ?_
  refine X_iconst (v := nI (1)) C (D (1, .iconst 1, 1) (mg 1 rfl)) (by decide) ?_
  refine X_icmp_ge (tgt := 9) C (D (2, .if_icmp .ge 7, 3) (mg 2 rfl)) (by decide) (fun q7 => ?_) (fun q7 => ?_)
  · skip
    refine X_iload_n C 2 (D (9, .iload_n 2, 1) (mg 5 rfl)) rfl rfl ?_
    refine X_bipush (v := nI (9)) C (D (10, .bipush 9, 2) (mg 6 rfl)) (by decide) ?_
    refine X_icmp_le (tgt := 20) C (D (12, .if_icmp .le 8, 3) (mg 7 rfl)) (by decide) (fun q8 => ?_) (fun q8 => ?_)
    · skip
      refine X_iload_n C 2 (D (20, .iload_n 2, 1) (mg 10 rfl)) rfl rfl ?_
      refine X_eq (ls' := [some (.int (kd)), some (.int (d)), some (.int (a)), none, none, none]) (st' := [.int (hSer d a)]) (h' := h) (g' := g) rfl (congrArg (fun z => [Value.int z]) (Eq.symm (a := hSer d a) ((if_pos (by assumption)).trans (if_pos (by assumption))))) rfl rfl ?_
      exact jn21  
    · skip
      refine X_bipush (v := nI (9)) C (D (15, .bipush 9, 2) (mg 8 rfl)) (by decide) ?_
      refine X_goto (tgt := 21) C (D (17, .goto 4, 3) (mg 9 rfl)) (by decide) ?_
      refine X_eq (ls' := [some (.int (kd)), some (.int (d)), some (.int (a)), none, none, none]) (st' := [.int (hSer d a)]) (h' := h) (g' := g) rfl (congrArg (fun z => [Value.int z]) (Eq.symm (a := hSer d a) ((if_pos (by assumption)).trans (if_neg (by assumption))))) rfl rfl ?_
      exact jn21  
  · skip
    refine X_iconst (v := nI (0)) C (D (5, .iconst 0, 1) (mg 3 rfl)) (by decide) ?_
    refine X_goto (tgt := 21) C (D (6, .goto 15, 3) (mg 4 rfl)) (by decide) ?_
    refine X_eq (ls' := [some (.int (kd)), some (.int (d)), some (.int (a)), none, none, none]) (st' := [.int (hSer d a)]) (h' := h) (g' := g) rfl (congrArg (fun z => [Value.int z]) (Eq.symm (a := hSer d a) (if_neg (by assumption)))) rfl rfl ?_
    exact jn21  
