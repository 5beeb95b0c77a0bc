/-! THE REFERENCE, 2: how high, how deep, steps, weeks -/
set_option maxHeartbeats 4000000 in
set_option maxRecDepth 100000 in
theorem ct_X8_has {l : Launch} {w : Kw} (hw : wOk w) (x y : Int32) (h : xI) (g : xJ)  : Ct l w yX8_has cX8_has 2 (some .boolean) 0 0 [.int (x), .int (y)] h g (px (some (.int (if (x >>> (y &&& 31)) &&& nI 1 = nI 1 then 1 else 0))) h g) := by
  refine Ct_of (ls := [some (.int (x)), some (.int (y))]) (by decide) hw (Nat.le_of_ble_eq_true rfl) rfl (fun k hkl C => ?_)
  have C : Cx k w cX8_has RX8 2 (some .boolean) 0 0 := C
  have D := dtX8_has
  subst hkl
  refine X_iload_n C 0 (D (0, .iload_n 0, 1) (mg 0 rfl)) rfl rfl ?_
  refine X_iload_n C 1 (D (1, .iload_n 1, 1) (mg 1 rfl)) rfl rfl ?_
  refine X_ishr C (D (2, .ishr, 1) (mg 2 rfl)) ?_
  refine X_iconst (v := nI (1)) C (D (3, .iconst 1, 1) (mg 3 rfl)) (by decide) ?_
  refine X_iand C (D (4, .iand, 1) (mg 4 rfl)) ?_
  refine X_iconst (v := nI (1)) C (D (5, .iconst 1, 1) (mg 5 rfl)) (by decide) ?_
  refine X_icmp_ne (tgt := 13) C (D (6, .if_icmp .ne 7, 3) (mg 6 rfl)) (by decide) (fun q1 => ?_) (fun q1 => ?_)
  · skip
    refine X_iconst (v := nI (0)) C (D (13, .iconst 0, 1) (mg 9 rfl)) (by decide) ?_
    exact X_zret C (D (14, .ireturn, 1) (mg 10 rfl)) rfl ⟨pf ‹_›, rfl, rfl⟩
  · skip
    refine X_iconst (v := nI (1)) C (D (9, .iconst 1, 1) (mg 7 rfl)) (by decide) ?_
    refine X_goto (tgt := 14) C (D (10, .goto 4, 3) (mg 8 rfl)) (by decide) ?_
    exact X_zret C (D (14, .ireturn, 1) (mg 10 rfl)) rfl ⟨pt ‹_›, rfl, rfl⟩
def hSer (d a : Int32) : Int32 := if nI 1 ≤ d then (if a ≤ nI 9 then a else nI 9) else nI 0
def hGr (x : Int32) : Int32 := if x < nI 1 then nI 0 else x + nI 2
def hHot (d x : Int32) : Int32 := if d < nI 4 then x else nI 2 * x
def hLaud (a x : Int32) : Int32 := if nI 6 ≤ a then x else nI 0
def hVer (d x : Int32) : Int32 := if nI 1 ≤ x then (if nI 1 ≤ x - d then x - d else nI 1) else nI 0
/-- how high a KIND stands, d deep, a old -/
def hiA (k d a : Int32) : Int32 := if k = 1 then hGr (hSer d a) else if k = 2 then hHot d (hSer d a) else if k = 3 then hLaud a (hHot d (hSer d a)) else if k = 4 then hSer d a / nI 2 else if k = 5 then hVer d (hGr (hSer d a)) else hSer d a
theorem hiA_o {k d a : Int32} (h : k.toInt < 1 ∨ 5 < k.toInt) : hiA k d a = hSer d a := by
  have e : ∀ y : Int32, k = y → k.toInt = y.toInt := fun y q => by rw [q]
  unfold hiA
  rw [if_neg (fun q => by have := e _ q; rw [show (1 : Int32).toInt = 1 from by decide] at this; omega), if_neg (fun q => by have := e _ q; rw [show (2 : Int32).toInt = 2 from by decide] at this; omega), if_neg (fun q => by have := e _ q; rw [show (3 : Int32).toInt = 3 from by decide] at this; omega), if_neg (fun q => by have := e _ q; rw [show (4 : Int32).toInt = 4 from by decide] at this; omega), if_neg (fun q => by have := e _ q; rw [show (5 : Int32).toInt = 5 from by decide] at this; omega)]
theorem sw_1_5 (x : Int32) : x = 1 ∨ x = 2 ∨ x = 3 ∨ x = 4 ∨ x = 5 ∨ (x.toInt < 1 ∨ 5 < x.toInt) := by
  have e : ∀ y : Int32, x = y ↔ x.toInt = y.toInt := fun y => Int32.toInt_inj.symm
  simp only [e, show (1 : Int32).toInt = 1 from by decide, show (2 : Int32).toInt = 2 from by decide, show (3 : Int32).toInt = 3 from by decide, show (4 : Int32).toInt = 4 from by decide, show (5 : Int32).toInt = 5 from by decide]
  omega
set_option maxHeartbeats 4000000 in
set_option maxRecDepth 100000 in
theorem ct_X8_highAs {l : Launch} {w : Kw} (hw : wOk w) (kd d a : Int32) (h : xI) (g : xJ)  : Ct l w yX8_highAs cX8_highAs 6 (some .int) 0 0 [.int (kd), .int (d), .int (a)] h g (px (some (.int (hiA kd d a))) h g) := by
  refine Ct_of (ls := [some (.int (kd)), some (.int (d)), some (.int (a)), none, none, none]) (by decide) hw (Nat.le_of_ble_eq_true rfl) rfl (fun k hkl C => ?_)
  have C : Cx k w cX8_highAs RX8 6 (some .int) 0 0 := C
  have D := dtX8_highAs
  subst hkl
  have jn50 : X k w (Zq k w (px (some (.int (hiA kd d a))) h g)) 50 [some (.int (kd)), some (.int (d)), some (.int (a)), some (.int (hSer d a)), some (.int (hGr (hSer d a))), some (.int (hHot d (hSer d a)))] [] h g := by
    refine X_iload_n C 0 (D (50, .iload_n 0, 1) (mg 30 rfl)) rfl rfl ?_
    rcases sw_1_5 (kd) with q1 | q1 | q1 | q1 | q1 | q1
    · refine X_swIn (tgt := 84) C (D (51, .tableswitch 83 1 5 #[33, 36, 39, 52, 56], 33) (mg 31 rfl)) (1) (by rw [q1]; decide) (by decide) (by decide) rfl (by decide) ?_
      refine X_iload C (D (84, .iload 4, 2) (mg 32 rfl)) rfl ?_
      exact X_iret C (D (86, .ireturn, 1) (mg 33 rfl)) ⟨congrArg (fun z => some (Value.int z)) (by subst ‹kd = 1›; rfl : hiA kd d a = hGr (hSer d a)), rfl, rfl⟩
    · refine X_swIn (tgt := 87) C (D (51, .tableswitch 83 1 5 #[33, 36, 39, 52, 56], 33) (mg 31 rfl)) (2) (by rw [q1]; decide) (by decide) (by decide) rfl (by decide) ?_
      refine X_iload C (D (87, .iload 5, 2) (mg 34 rfl)) rfl ?_
      exact X_iret C (D (89, .ireturn, 1) (mg 35 rfl)) ⟨congrArg (fun z => some (Value.int z)) (by subst ‹kd = 2›; rfl : hiA kd d a = hHot d (hSer d a)), rfl, rfl⟩
    · refine X_swIn (tgt := 90) C (D (51, .tableswitch 83 1 5 #[33, 36, 39, 52, 56], 33) (mg 31 rfl)) (3) (by rw [q1]; decide) (by decide) (by decide) rfl (by decide) ?_
      refine X_iload_n C 2 (D (90, .iload_n 2, 1) (mg 36 rfl)) rfl rfl ?_
      refine X_bipush (v := nI (6)) C (D (91, .bipush 6, 2) (mg 37 rfl)) (by decide) ?_
      refine X_icmp_ge (tgt := 100) C (D (93, .if_icmp .ge 7, 3) (mg 38 rfl)) (by decide) (fun q2 => ?_) (fun q2 => ?_)
      · skip
        refine X_iload C (D (100, .iload 5, 2) (mg 41 rfl)) rfl ?_
        exact X_iret C (D (102, .ireturn, 1) (mg 42 rfl)) ⟨congrArg (fun z => some (Value.int z)) ((by subst ‹kd = 3›; rfl : hiA kd d a = hLaud a (hHot d (hSer d a))).trans (if_pos (by assumption))), rfl, rfl⟩
      · skip
        refine X_iconst (v := nI (0)) C (D (96, .iconst 0, 1) (mg 39 rfl)) (by decide) ?_
        refine X_goto (tgt := 102) C (D (97, .goto 5, 3) (mg 40 rfl)) (by decide) ?_
        exact X_iret C (D (102, .ireturn, 1) (mg 42 rfl)) ⟨congrArg (fun z => some (Value.int z)) ((by subst ‹kd = 3›; rfl : hiA kd d a = hLaud a (hHot d (hSer d a))).trans (if_neg (by assumption))), rfl, rfl⟩
    · refine X_swIn (tgt := 103) C (D (51, .tableswitch 83 1 5 #[33, 36, 39, 52, 56], 33) (mg 31 rfl)) (4) (by rw [q1]; decide) (by decide) (by decide) rfl (by decide) ?_
      refine X_iload_n C 3 (D (103, .iload_n 3, 1) (mg 43 rfl)) rfl rfl ?_
      refine X_iconst (v := nI (2)) C (D (104, .iconst 2, 1) (mg 44 rfl)) (by decide) ?_
      refine X_idiv C (D (105, .idiv, 1) (mg 45 rfl)) (by decide) ?_
      exact X_iret C (D (106, .ireturn, 1) (mg 46 rfl)) ⟨congrArg (fun z => some (Value.int z)) (by subst ‹kd = 4›; rfl : hiA kd d a = hSer d a / nI 2), rfl, rfl⟩
    · refine X_swIn (tgt := 107) C (D (51, .tableswitch 83 1 5 #[33, 36, 39, 52, 56], 33) (mg 31 rfl)) (5) (by rw [q1]; decide) (by decide) (by decide) rfl (by decide) ?_
      refine X_iload C (D (107, .iload 4, 2) (mg 47 rfl)) rfl ?_
      refine X_iconst (v := nI (1)) C (D (109, .iconst 1, 1) (mg 48 rfl)) (by decide) ?_
      refine X_icmp_ge (tgt := 117) C (D (110, .if_icmp .ge 7, 3) (mg 49 rfl)) (by decide) (fun q3 => ?_) (fun q3 => ?_)
      · skip
        refine X_iload C (D (117, .iload 4, 2) (mg 52 rfl)) rfl ?_
        refine X_iload_n C 1 (D (119, .iload_n 1, 1) (mg 53 rfl)) rfl rfl ?_
        refine X_isub C (D (120, .isub, 1) (mg 54 rfl)) ?_
        refine X_iconst (v := nI (1)) C (D (121, .iconst 1, 1) (mg 55 rfl)) (by decide) ?_
        refine X_icmp_ge (tgt := 129) C (D (122, .if_icmp .ge 7, 3) (mg 56 rfl)) (by decide) (fun q4 => ?_) (fun q4 => ?_)
        · skip
          refine X_iload C (D (129, .iload 4, 2) (mg 59 rfl)) rfl ?_
          refine X_iload_n C 1 (D (131, .iload_n 1, 1) (mg 60 rfl)) rfl rfl ?_
          refine X_isub C (D (132, .isub, 1) (mg 61 rfl)) ?_
          exact X_iret C (D (133, .ireturn, 1) (mg 62 rfl)) ⟨congrArg (fun z => some (Value.int z)) ((by subst ‹kd = 5›; rfl : hiA kd d a = hVer d (hGr (hSer d a))).trans ((if_pos (by assumption)).trans (if_pos (by assumption)))), rfl, rfl⟩
        · skip
          refine X_iconst (v := nI (1)) C (D (125, .iconst 1, 1) (mg 57 rfl)) (by decide) ?_
          refine X_goto (tgt := 133) C (D (126, .goto 7, 3) (mg 58 rfl)) (by decide) ?_
          exact X_iret C (D (133, .ireturn, 1) (mg 62 rfl)) ⟨congrArg (fun z => some (Value.int z)) ((by subst ‹kd = 5›; rfl : hiA kd d a = hVer d (hGr (hSer d a))).trans ((if_pos (by assumption)).trans (if_neg (by assumption)))), rfl, rfl⟩
      · skip
        refine X_iconst (v := nI (0)) C (D (113, .iconst 0, 1) (mg 50 rfl)) (by decide) ?_
        refine X_goto (tgt := 133) C (D (114, .goto 19, 3) (mg 51 rfl)) (by decide) ?_
        exact X_iret C (D (133, .ireturn, 1) (mg 62 rfl)) ⟨congrArg (fun z => some (Value.int z)) ((by subst ‹kd = 5›; rfl : hiA kd d a = hVer d (hGr (hSer d a))).trans (if_neg (by assumption))), rfl, rfl⟩
    · refine X_swOut (tgt := 134) C (D (51, .tableswitch 83 1 5 #[33, 36, 39, 52, 56], 33) (mg 31 rfl)) q1 (by decide) ?_
      refine X_iload_n C 3 (D (134, .iload_n 3, 1) (mg 63 rfl)) rfl rfl ?_
      exact X_iret C (D (135, .ireturn, 1) (mg 64 rfl)) ⟨by rw [hiA_o ‹_›], rfl, rfl⟩
  have jn48 : X k w (Zq k w (px (some (.int (hiA kd d a))) h g)) 48 [some (.int (kd)), some (.int (d)), some (.int (a)), some (.int (hSer d a)), some (.int (hGr (hSer d a))), none] [.int (hHot d (hSer d a))] h g := by
    refine X_istore (ls' := [some (.int (kd)), some (.int (d)), some (.int (a)), some (.int (hSer d a)), some (.int (hGr (hSer d a))), some (.int (hHot d (hSer d a)))]) C (D (48, .istore 5, 2) (mg 29 rfl)) (Nat.le_of_ble_eq_true rfl) rfl ?_
    refine X_eq (ls' := [some (.int (kd)), some (.int (d)), some (.int (a)), some (.int (hSer d a)), some (.int (hGr (hSer d a))), some (.int (hHot d (hSer d a)))]) (st' := []) (h' := h) (g' := g) rfl rfl rfl rfl ?_
    exact jn50  
  have jn34 : X k w (Zq k w (px (some (.int (hiA kd d a))) h g)) 34 [some (.int (kd)), some (.int (d)), some (.int (a)), some (.int (hSer d a)), none, none] [.int (hGr (hSer d a))] h g := by
    refine X_istore (ls' := [some (.int (kd)), some (.int (d)), some (.int (a)), some (.int (hSer d a)), some (.int (hGr (hSer d a))), none]) C (D (34, .istore 4, 2) (mg 20 rfl)) (Nat.le_of_ble_eq_true rfl) rfl ?_
    refine X_iload_n C 1 (D (36, .iload_n 1, 1) (mg 21 rfl)) rfl rfl ?_
    refine X_iconst (v := nI (4)) C (D (37, .iconst 4, 1) (mg 22 rfl)) (by decide) ?_
    refine X_icmp_lt (tgt := 47) C (D (38, .if_icmp .lt 9, 3) (mg 23 rfl)) (by decide) (fun q5 => ?_) (fun q5 => ?_)
    · skip
      refine X_iload_n C 3 (D (47, .iload_n 3, 1) (mg 28 rfl)) rfl rfl ?_
      refine X_eq (ls' := [some (.int (kd)), some (.int (d)), some (.int (a)), some (.int (hSer d a)), some (.int (hGr (hSer d a))), none]) (st' := [.int (hHot d (hSer d a))]) (h' := h) (g' := g) rfl (congrArg (fun z => [Value.int z]) (Eq.symm (a := hHot d (hSer d a)) (if_pos (by assumption)))) rfl rfl ?_
      exact jn48  
    · skip
      refine X_iconst (v := nI (2)) C (D (41, .iconst 2, 1) (mg 24 rfl)) (by decide) ?_
      refine X_iload_n C 3 (D (42, .iload_n 3, 1) (mg 25 rfl)) rfl rfl ?_
      refine X_imul C (D (43, .imul, 1) (mg 26 rfl)) ?_
      refine X_goto (tgt := 48) C (D (44, .goto 4, 3) (mg 27 rfl)) (by decide) ?_
      refine X_eq (ls' := [some (.int (kd)), some (.int (d)), some (.int (a)), some (.int (hSer d a)), some (.int (hGr (hSer d a))), none]) (st' := [.int (hHot d (hSer d a))]) (h' := h) (g' := g) rfl (congrArg (fun z => [Value.int z]) (Eq.symm (a := hHot d (hSer d a)) (if_neg (by assumption)))) rfl rfl ?_
      exact jn48  
  have jn21 : X k w (Zq k w (px (some (.int (hiA kd d a))) h g)) 21 [some (.int (kd)), some (.int (d)), some (.int (a)), none, none, none] [.int (hSer d a)] h g := by
    refine X_istore_n (ls' := [some (.int (kd)), some (.int (d)), some (.int (a)), some (.int (hSer d a)), none, none]) C 3 (D (21, .istore_n 3, 1) (mg 11 rfl)) rfl (Nat.le_of_ble_eq_true rfl) rfl ?_
    refine X_iload_n C 3 (D (22, .iload_n 3, 1) (mg 12 rfl)) rfl rfl ?_
    refine X_iconst (v := nI (1)) C (D (23, .iconst 1, 1) (mg 13 rfl)) (by decide) ?_
    refine X_icmp_lt (tgt := 33) C (D (24, .if_icmp .lt 9, 3) (mg 14 rfl)) (by decide) (fun q6 => ?_) (fun q6 => ?_)
    · skip
      refine X_iconst (v := nI (0)) C (D (33, .iconst 0, 1) (mg 19 rfl)) (by decide) ?_
      refine X_eq (ls' := [some (.int (kd)), some (.int (d)), some (.int (a)), some (.int (hSer d a)), none, none]) (st' := [.int (hGr (hSer d a))]) (h' := h) (g' := g) rfl (congrArg (fun z => [Value.int z]) (Eq.symm (a := hGr (hSer d a)) (if_pos (by assumption)))) rfl rfl ?_
      exact jn34  
    · skip
      refine X_iload_n C 3 (D (27, .iload_n 3, 1) (mg 15 rfl)) rfl rfl ?_
      refine X_iconst (v := nI (2)) C (D (28, .iconst 2, 1) (mg 16 rfl)) (by decide) ?_
      refine X_iadd C (D (29, .iadd, 1) (mg 17 rfl)) ?_
      refine X_goto (tgt := 34) C (D (30, .goto 4, 3) (mg 18 rfl)) (by decide) ?_
      refine X_eq (ls' := [some (.int (kd)), some (.int (d)), some (.int (a)), some (.int (hSer d a)), none, none]) (st' := [.int (hGr (hSer d a))]) (h' := h) (g' := g) rfl (congrArg (fun z => [Value.int z]) (Eq.symm (a := hGr (hSer d a)) (if_neg (by assumption)))) rfl rfl ?_
      exact jn34  
  refine X_iload_n C 1 (D (0, .iload_n 1, 1) (mg 0 rfl)) rfl rfl ?_
  refine X_iconst (v := nI (1)) C (D (1, .iconst 1, 1) (mg 1 rfl)) (by decide) ?_
  refine X_icmp_ge (tgt := 9) C (D (2, .if_icmp .ge 7, 3) (mg 2 rfl)) (by decide) (fun q7 => ?_) (fun q7 => ?_)
  · skip
    refine X_iload_n C 2 (D (9, .iload_n 2, 1) (mg 5 rfl)) rfl rfl ?_
    refine X_bipush (v := nI (9)) C (D (10, .bipush 9, 2) (mg 6 rfl)) (by decide) ?_
    refine X_icmp_le (tgt := 20) C (D (12, .if_icmp .le 8, 3) (mg 7 rfl)) (by decide) (fun q8 => ?_) (fun q8 => ?_)
    · skip
      refine X_iload_n C 2 (D (20, .iload_n 2, 1) (mg 10 rfl)) rfl rfl ?_
      refine X_eq (ls' := [some (.int (kd)), some (.int (d)), some (.int (a)), none, none, none]) (st' := [.int (hSer d a)]) (h' := h) (g' := g) rfl (congrArg (fun z => [Value.int z]) (Eq.symm (a := hSer d a) ((if_pos (by assumption)).trans (if_pos (by assumption))))) rfl rfl ?_
      exact jn21  
    · skip
      refine X_bipush (v := nI (9)) C (D (15, .bipush 9, 2) (mg 8 rfl)) (by decide) ?_
      refine X_goto (tgt := 21) C (D (17, .goto 4, 3) (mg 9 rfl)) (by decide) ?_
      refine X_eq (ls' := [some (.int (kd)), some (.int (d)), some (.int (a)), none, none, none]) (st' := [.int (hSer d a)]) (h' := h) (g' := g) rfl (congrArg (fun z => [Value.int z]) (Eq.symm (a := hSer d a) ((if_pos (by assumption)).trans (if_neg (by assumption))))) rfl rfl ?_
      exact jn21  
  · skip
    refine X_iconst (v := nI (0)) C (D (5, .iconst 0, 1) (mg 3 rfl)) (by decide) ?_
    refine X_goto (tgt := 21) C (D (6, .goto 15, 3) (mg 4 rfl)) (by decide) ?_
    refine X_eq (ls' := [some (.int (kd)), some (.int (d)), some (.int (a)), none, none, none]) (st' := [.int (hSer d a)]) (h' := h) (g' := g) rfl (congrArg (fun z => [Value.int z]) (Eq.symm (a := hSer d a) (if_neg (by assumption)))) rfl rfl ?_
    exact jn21  
def dLi (x : Int32) : Int32 := if x ≤ nI 1 then x else nI 1
def dCu (s x : Int32) : Int32 := if nI 1 < s then x + nI 1 else x + nI 4
def dOl (d x : Int32) : Int32 := if x ≤ d then nI 0 else x - d
/-- by how much a KIND of harrow drags deeper, STONY by s, d deep -/
def deA (k s d : Int32) : Int32 := if k = 1 then nI 4 - s + nI 1 else if k = 2 then (nI 4 - s + nI 1) / nI 2 else if k = 3 then dCu s (nI 4 - s) else if k = 4 then dLi ((nI 4 - s + nI 1) / nI 2) else if k = 5 then dOl d (nI 4 - s) else nI 4 - s
theorem deA_o {k s d : Int32} (h : k.toInt < 1 ∨ 5 < k.toInt) : deA k s d = nI 4 - s := by
  have e : ∀ y : Int32, k = y → k.toInt = y.toInt := fun y q => by rw [q]
  unfold deA
  rw [if_neg (fun q => by have := e _ q; rw [show (1 : Int32).toInt = 1 from by decide] at this; omega), if_neg (fun q => by have := e _ q; rw [show (2 : Int32).toInt = 2 from by decide] at this; omega), if_neg (fun q => by have := e _ q; rw [show (3 : Int32).toInt = 3 from by decide] at this; omega), if_neg (fun q => by have := e _ q; rw [show (4 : Int32).toInt = 4 from by decide] at this; omega), if_neg (fun q => by have := e _ q; rw [show (5 : Int32).toInt = 5 from by decide] at this; omega)]
theorem deA_1 {k s d : Int32} (h : k = 1) : deA k s d = nI 4 - s + nI 1 := by subst h; rfl
theorem deA_2 {k s d : Int32} (h : k = 2) : deA k s d = (nI 4 - s + nI 1) / nI 2 := by subst h; rfl
theorem deA_3 {k s d : Int32} (h : k = 3) : deA k s d = dCu s (nI 4 - s) := by subst h; rfl
theorem deA_4 {k s d : Int32} (h : k = 4) : deA k s d = dLi ((nI 4 - s + nI 1) / nI 2) := by subst h; rfl
theorem deA_5 {k s d : Int32} (h : k = 5) : deA k s d = dOl d (nI 4 - s) := by subst h; rfl
set_option maxHeartbeats 4000000 in
set_option maxRecDepth 100000 in
theorem ct_X8_deeperAs {l : Launch} {w : Kw} (hw : wOk w) (kd s d : Int32) (h : xI) (g : xJ)  : Ct l w yX8_deeperAs cX8_deeperAs 5 (some .int) 0 0 [.int (kd), .int (s), .int (d)] h g (px (some (.int (deA kd s d))) h g) := by
  refine Ct_of (ls := [some (.int (kd)), some (.int (s)), some (.int (d)), none, none]) (by decide) hw (Nat.le_of_ble_eq_true rfl) rfl (fun k hkl C => ?_)
  have C : Cx k w cX8_deeperAs RX8 5 (some .int) 0 0 := C
  have D := dtX8_deeperAs
  subst hkl
  refine X_iconst (v := nI (4)) C (D (0, .iconst 4, 1) (mg 0 rfl)) (by decide) ?_
  refine X_iload_n C 1 (D (1, .iload_n 1, 1) (mg 1 rfl)) rfl rfl ?_
  refine X_isub C (D (2, .isub, 1) (mg 2 rfl)) ?_
  refine X_istore_n (ls' := [some (.int (kd)), some (.int (s)), some (.int (d)), some (.int ((nI (4)) - s)), none]) C 3 (D (3, .istore_n 3, 1) (mg 3 rfl)) rfl (Nat.le_of_ble_eq_true rfl) rfl ?_
  refine X_iload_n C 3 (D (4, .iload_n 3, 1) (mg 4 rfl)) rfl rfl ?_
  refine X_iconst (v := nI (1)) C (D (5, .iconst 1, 1) (mg 5 rfl)) (by decide) ?_
  refine X_iadd C (D (6, .iadd, 1) (mg 6 rfl)) ?_
  refine X_iconst (v := nI (2)) C (D (7, .iconst 2, 1) (mg 7 rfl)) (by decide) ?_
  refine X_idiv C (D (8, .idiv, 1) (mg 8 rfl)) (by decide) ?_
  refine X_istore (ls' := [some (.int (kd)), some (.int (s)), some (.int (d)), some (.int ((nI (4)) - s)), some (.int ((((nI (4)) - s) + (nI (1))) / (nI (2))))]) C (D (9, .istore 4, 2) (mg 9 rfl)) (Nat.le_of_ble_eq_true rfl) rfl ?_
  refine X_iload_n C 0 (D (11, .iload_n 0, 1) (mg 10 rfl)) rfl rfl ?_
  rcases sw_1_5 (kd) with q1 | q1 | q1 | q1 | q1 | q1
  · refine X_swIn (tgt := 48) C (D (12, .tableswitch 84 1 5 #[36, 40, 43, 58, 71], 36) (mg 11 rfl)) (1) (by rw [q1]; decide) (by decide) (by decide) rfl (by decide) ?_
    refine X_iload_n C 3 (D (48, .iload_n 3, 1) (mg 12 rfl)) rfl rfl ?_
    refine X_iconst (v := nI (1)) C (D (49, .iconst 1, 1) (mg 13 rfl)) (by decide) ?_
    refine X_iadd C (D (50, .iadd, 1) (mg 14 rfl)) ?_
    exact X_iret C (D (51, .ireturn, 1) (mg 15 rfl)) ⟨congrArg (fun z => some (Value.int z)) (deA_1 (by assumption)), rfl, rfl⟩
  · refine X_swIn (tgt := 52) C (D (12, .tableswitch 84 1 5 #[36, 40, 43, 58, 71], 36) (mg 11 rfl)) (2) (by rw [q1]; decide) (by decide) (by decide) rfl (by decide) ?_
    refine X_iload C (D (52, .iload 4, 2) (mg 16 rfl)) rfl ?_
    exact X_iret C (D (54, .ireturn, 1) (mg 17 rfl)) ⟨congrArg (fun z => some (Value.int z)) (deA_2 (by assumption)), rfl, rfl⟩
  · refine X_swIn (tgt := 55) C (D (12, .tableswitch 84 1 5 #[36, 40, 43, 58, 71], 36) (mg 11 rfl)) (3) (by rw [q1]; decide) (by decide) (by decide) rfl (by decide) ?_
    refine X_iload_n C 1 (D (55, .iload_n 1, 1) (mg 18 rfl)) rfl rfl ?_
    refine X_iconst (v := nI (1)) C (D (56, .iconst 1, 1) (mg 19 rfl)) (by decide) ?_
    refine X_icmp_gt (tgt := 66) C (D (57, .if_icmp .gt 9, 3) (mg 20 rfl)) (by decide) (fun q2 => ?_) (fun q2 => ?_)
    · skip
      refine X_iload_n C 3 (D (66, .iload_n 3, 1) (mg 25 rfl)) rfl rfl ?_
      refine X_iconst (v := nI (1)) C (D (67, .iconst 1, 1) (mg 26 rfl)) (by decide) ?_
      refine X_iadd C (D (68, .iadd, 1) (mg 27 rfl)) ?_
      exact X_iret C (D (69, .ireturn, 1) (mg 28 rfl)) ⟨congrArg (fun z => some (Value.int z)) ((deA_3 (by assumption)).trans (if_pos (by assumption))), rfl, rfl⟩
    · skip
      refine X_iload_n C 3 (D (60, .iload_n 3, 1) (mg 21 rfl)) rfl rfl ?_
      refine X_iconst (v := nI (4)) C (D (61, .iconst 4, 1) (mg 22 rfl)) (by decide) ?_
      refine X_iadd C (D (62, .iadd, 1) (mg 23 rfl)) ?_
      refine X_goto (tgt := 69) C (D (63, .goto 6, 3) (mg 24 rfl)) (by decide) ?_
      exact X_iret C (D (69, .ireturn, 1) (mg 28 rfl)) ⟨congrArg (fun z => some (Value.int z)) ((deA_3 (by assumption)).trans (if_neg (by assumption))), rfl, rfl⟩
  · refine X_swIn (tgt := 70) C (D (12, .tableswitch 84 1 5 #[36, 40, 43, 58, 71], 36) (mg 11 rfl)) (4) (by rw [q1]; decide) (by decide) (by decide) rfl (by decide) ?_
    refine X_iload C (D (70, .iload 4, 2) (mg 29 rfl)) rfl ?_
    refine X_iconst (v := nI (1)) C (D (72, .iconst 1, 1) (mg 30 rfl)) (by decide) ?_
    refine X_icmp_le (tgt := 80) C (D (73, .if_icmp .le 7, 3) (mg 31 rfl)) (by decide) (fun q3 => ?_) (fun q3 => ?_)
    · skip
      refine X_iload C (D (80, .iload 4, 2) (mg 34 rfl)) rfl ?_
      exact X_iret C (D (82, .ireturn, 1) (mg 35 rfl)) ⟨congrArg (fun z => some (Value.int z)) ((deA_4 (by assumption)).trans (if_pos (by assumption))), rfl, rfl⟩
    · skip
      refine X_iconst (v := nI (1)) C (D (76, .iconst 1, 1) (mg 32 rfl)) (by decide) ?_
      refine X_goto (tgt := 82) C (D (77, .goto 5, 3) (mg 33 rfl)) (by decide) ?_
      exact X_iret C (D (82, .ireturn, 1) (mg 35 rfl)) ⟨congrArg (fun z => some (Value.int z)) ((deA_4 (by assumption)).trans (if_neg (by assumption))), rfl, rfl⟩
  · refine X_swIn (tgt := 83) C (D (12, .tableswitch 84 1 5 #[36, 40, 43, 58, 71], 36) (mg 11 rfl)) (5) (by rw [q1]; decide) (by decide) (by decide) rfl (by decide) ?_
    refine X_iload_n C 3 (D (83, .iload_n 3, 1) (mg 36 rfl)) rfl rfl ?_
    refine X_iload_n C 2 (D (84, .iload_n 2, 1) (mg 37 rfl)) rfl rfl ?_
    refine X_icmp_le (tgt := 94) C (D (85, .if_icmp .le 9, 3) (mg 38 rfl)) (by decide) (fun q4 => ?_) (fun q4 => ?_)
    · skip
      refine X_iconst (v := nI (0)) C (D (94, .iconst 0, 1) (mg 43 rfl)) (by decide) ?_
      exact X_iret C (D (95, .ireturn, 1) (mg 44 rfl)) ⟨congrArg (fun z => some (Value.int z)) ((deA_5 (by assumption)).trans (if_pos (by assumption))), rfl, rfl⟩
    · skip
      refine X_iload_n C 3 (D (88, .iload_n 3, 1) (mg 39 rfl)) rfl rfl ?_
      refine X_iload_n C 2 (D (89, .iload_n 2, 1) (mg 40 rfl)) rfl rfl ?_
      refine X_isub C (D (90, .isub, 1) (mg 41 rfl)) ?_
      refine X_goto (tgt := 95) C (D (91, .goto 4, 3) (mg 42 rfl)) (by decide) ?_
      exact X_iret C (D (95, .ireturn, 1) (mg 44 rfl)) ⟨congrArg (fun z => some (Value.int z)) ((deA_5 (by assumption)).trans (if_neg (by assumption))), rfl, rfl⟩
  · refine X_swOut (tgt := 96) C (D (12, .tableswitch 84 1 5 #[36, 40, 43, 58, 71], 36) (mg 11 rfl)) q1 (by decide) ?_
    refine X_iload_n C 3 (D (96, .iload_n 3, 1) (mg 45 rfl)) rfl rfl ?_
    exact X_iret C (D (97, .ireturn, 1) (mg 46 rfl)) ⟨congrArg (fun z => some (Value.int z)) (deA_o (by assumption)), rfl, rfl⟩
def hiV (v : Int32) : Int32 := if v = 0 then nI 0 else hiA (mK v) (mD v) (mA v)
def coV (k s d : Int32) : Int32 := if d + deA k s d ≤ nI 9 then d + deA k s d else nI 9
set_option maxHeartbeats 4000000 in
set_option maxRecDepth 100000 in
theorem ct_X8_highOf {l : Launch} {w : Kw} (hw : wOk w) {q L : Nat} (hr : rw56 w q L) {j : Nat} (hj : j < 25) (h : xI) (g : xJ)  : Ct l w yX8_highOf cX8_highOf 2 (some .int) 1 25 [.ref (wA w (q)), .int (nI (j))] h g (px (some (.int (hiV (h q (3 + j))))) h g) := by
  refine Ct_of (ls := [some (.ref (wA w (q))), some (.int (nI (j)))]) (by decide) hw (Nat.le_of_ble_eq_true rfl) rfl (fun k hkl C => ?_)
  have C : Cx k w cX8_highOf RX8 2 (some .int) 1 25 := C
  have D := dtX8_highOf
  subst hkl
  refine X_aload_n C 0 (D (0, .aload_n 0, 1) (mg 0 rfl)) rfl rfl ?_
  refine X_iload_n C 1 (D (1, .iload_n 1, 1) (mg 1 rfl)) rfl rfl ?_
  refine X_cS (As := [.ref (wA w (q)), .int (nI (j))]) (st := []) C (post := _) (ct_X8_lies hw hr (by omega) h g) kX8_64 (by decide) (by decide) rfl rfl (Nat.le_of_ble_eq_true rfl) (D (2, .invokestatic 64, 3) (mg 2 rfl)) rfl (fun v3 H1 G2 hv3 => ?_)
  obtain ⟨rfl, rfl, rfl⟩ := hv3
  show X k w _ 5 [some (.ref (wA w (q))), some (.int (nI (j)))] [.int (if ¬ h (q) (3 + (j)) = 0 then 1 else 0)] h g
  refine X_if_eq (tgt := 29) C (D (5, .ifCond .eq 24, 3) (mg 3 rfl)) (by decide) (fun q4 => ?_) (fun q4 => ?_)
  · skip
    have q4 : ¬ (¬ h (q) (3 + (j)) = 0) := bz0.mp q4
    refine X_iconst (v := nI (0)) C (D (29, .iconst 0, 1) (mg 15 rfl)) (by decide) ?_
    exact X_iret C (D (30, .ireturn, 1) (mg 16 rfl)) ⟨congrArg (fun z => some (Value.int z)) (if_pos (Classical.not_not.mp (by assumption))), rfl, rfl⟩
  · skip
    have q4 : (¬ h (q) (3 + (j)) = 0) := bz1.mp q4
    refine X_aload_n C 0 (D (8, .aload_n 0, 1) (mg 4 rfl)) rfl rfl ?_
    refine X_iload_n C 1 (D (9, .iload_n 1, 1) (mg 5 rfl)) rfl rfl ?_
    refine X_cS (As := [.ref (wA w (q)), .int (nI (j))]) (st := []) C (post := _) (ct_X8_kindOf hw hr (by omega) h g) kX8_86 (by decide) (by decide) rfl rfl (Nat.le_of_ble_eq_true rfl) (D (10, .invokestatic 86, 3) (mg 6 rfl)) rfl (fun v7 H5 G6 hv7 => ?_)
    obtain ⟨rfl, rfl, rfl⟩ := hv7
    show X k w _ 13 [some (.ref (wA w (q))), some (.int (nI (j)))] [.int (mK (h (q) (3 + (j))))] h g
    refine X_aload_n C 0 (D (13, .aload_n 0, 1) (mg 7 rfl)) rfl rfl ?_
    refine X_iload_n C 1 (D (14, .iload_n 1, 1) (mg 8 rfl)) rfl rfl ?_
    refine X_cS (As := [.ref (wA w (q)), .int (nI (j))]) (st := [.int (mK (h (q) (3 + (j))))]) C (post := _) (ct_X8_depthOf hw hr (by omega) h g) kX8_90 (by decide) (by decide) rfl rfl (Nat.le_of_ble_eq_true rfl) (D (15, .invokestatic 90, 3) (mg 9 rfl)) rfl (fun v10 H8 G9 hv10 => ?_)
    obtain ⟨rfl, rfl, rfl⟩ := hv10
    show X k w _ 18 [some (.ref (wA w (q))), some (.int (nI (j)))] [.int (mD (h (q) (3 + (j)))), .int (mK (h (q) (3 + (j))))] h g
    refine X_aload_n C 0 (D (18, .aload_n 0, 1) (mg 10 rfl)) rfl rfl ?_
    refine X_iload_n C 1 (D (19, .iload_n 1, 1) (mg 11 rfl)) rfl rfl ?_
    refine X_cS (As := [.ref (wA w (q)), .int (nI (j))]) (st := [.int (mD (h (q) (3 + (j)))), .int (mK (h (q) (3 + (j))))]) C (post := _) (ct_X8_ageOf hw hr (by omega) h g) kX8_93 (by decide) (by decide) rfl rfl (Nat.le_of_ble_eq_true rfl) (D (20, .invokestatic 93, 3) (mg 12 rfl)) rfl (fun v13 H11 G12 hv13 => ?_)
    obtain ⟨rfl, rfl, rfl⟩ := hv13
    show X k w _ 23 [some (.ref (wA w (q))), some (.int (nI (j)))] [.int (mA (h (q) (3 + (j)))), .int (mD (h (q) (3 + (j)))), .int (mK (h (q) (3 + (j))))] h g
    refine X_cS (As := [.int (mK (h (q) (3 + (j)))), .int (mD (h (q) (3 + (j)))), .int (mA (h (q) (3 + (j))))]) (st := []) C (post := _) (ct_X8_highAs hw (mK (h (q) (3 + (j)))) (mD (h (q) (3 + (j)))) (mA (h (q) (3 + (j)))) h g) kX8_96 (by decide) (by decide) rfl rfl (Nat.le_of_ble_eq_true rfl) (D (23, .invokestatic 96, 3) (mg 13 rfl)) rfl (fun v16 H14 G15 hv16 => ?_)
    obtain ⟨rfl, rfl, rfl⟩ := hv16
    show X k w _ 26 [some (.ref (wA w (q))), some (.int (nI (j)))] [.int (hiA (mK (h (q) (3 + (j)))) (mD (h (q) (3 + (j)))) (mA (h (q) (3 + (j)))))] h g
    refine X_goto (tgt := 30) C (D (26, .goto 4, 3) (mg 14 rfl)) (by decide) ?_
    exact X_iret C (D (30, .ireturn, 1) (mg 16 rfl)) ⟨congrArg (fun z => some (Value.int z)) (if_neg (by assumption)), rfl, rfl⟩
set_option maxHeartbeats 4000000 in
set_option maxRecDepth 100000 in
theorem ct_X8_deeperOf {l : Launch} {w : Kw} (hw : wOk w) {q L : Nat} (hr : rw56 w q L) {j : Nat} (hj : j < 25) (d : Int32) (h : xI) (g : xJ)  : Ct l w yX8_deeperOf cX8_deeperOf 3 (some .int) 1 24 [.ref (wA w (q)), .int (nI (j)), .int (d)] h g (px (some (.int (deA (h q 30) (h q (31 + j)) d))) h g) := by
  refine Ct_of (ls := [some (.ref (wA w (q))), some (.int (nI (j))), some (.int (d))]) (by decide) hw (Nat.le_of_ble_eq_true rfl) rfl (fun k hkl C => ?_)
  have C : Cx k w cX8_deeperOf RX8 3 (some .int) 1 24 := C
  have D := dtX8_deeperOf
  subst hkl
  obtain ⟨hq0, hs0, hL, hL2⟩ := hr
  refine X_aload_n C 0 (D (0, .aload_n 0, 1) (mg 0 rfl)) rfl rfl ?_
  refine X_bipush (v := nI (30)) C (D (1, .bipush 30, 2) (mg 1 rfl)) (by decide) ?_
  refine X_iald (v := h (q) (30)) C (q) hq0 hs0 (vp_in_nI (by omega) (by omega)) (D (3, .iaload, 1) (mg 2 rfl)) (by rw [nI_clamp (by omega)]) ?_
  refine X_aload_n C 0 (D (4, .aload_n 0, 1) (mg 3 rfl)) rfl rfl ?_
  refine X_bipush (v := nI (31)) C (D (5, .bipush 31, 2) (mg 4 rfl)) (by decide) ?_
  refine X_iload_n C 1 (D (7, .iload_n 1, 1) (mg 5 rfl)) rfl rfl ?_
  refine X_iadd C (D (8, .iadd, 1) (mg 6 rfl)) ?_
  refine X_ti (y := nI (31 + j)) (nI_add (31) (j)) ?_
  refine X_iald (v := h (q) (31 + j)) C (q) hq0 hs0 (vp_in_nI (by omega) (by omega)) (D (9, .iaload, 1) (mg 7 rfl)) (by rw [nI_clamp (by omega)]) ?_
  refine X_iload_n C 2 (D (10, .iload_n 2, 1) (mg 8 rfl)) rfl rfl ?_
  refine X_cS (As := [.int (h (q) (30)), .int (h (q) (31 + j)), .int (d)]) (st := []) C (post := _) (ct_X8_deeperAs hw (h (q) (30)) (h (q) (31 + j)) (d) h g) kX8_100 (by decide) (by decide) rfl rfl (Nat.le_of_ble_eq_true rfl) (D (11, .invokestatic 100, 3) (mg 9 rfl)) rfl (fun v3 H1 G2 hv3 => ?_)
  obtain ⟨rfl, rfl, rfl⟩ := hv3
  show X k w _ 14 [some (.ref (wA w (q))), some (.int (nI (j))), some (.int (d))] [.int (deA (h (q) (30)) (h (q) (31 + j)) (d))] h g
  exact X_iret C (D (14, .ireturn, 1) (mg 10 rfl)) ⟨rfl, rfl, rfl⟩
set_option maxHeartbeats 4000000 in
set_option maxRecDepth 100000 in
theorem ct_X8_comesTo {l : Launch} {w : Kw} (hw : wOk w) {q L : Nat} (hr : rw56 w q L) {j : Nat} (hj : j < 25) (d : Int32) (h : xI) (g : xJ)  : Ct l w yX8_comesTo cX8_comesTo 4 (some .int) 2 46 [.ref (wA w (q)), .int (nI (j)), .int (d)] h g (px (some (.int (coV (h q 30) (h q (31 + j)) d))) h g) := by
  refine Ct_of (ls := [some (.ref (wA w (q))), some (.int (nI (j))), some (.int (d)), none]) (by decide) hw (Nat.le_of_ble_eq_true rfl) rfl (fun k hkl C => ?_)
  have C : Cx k w cX8_comesTo RX8 4 (some .int) 2 46 := C
  have D := dtX8_comesTo
  subst hkl
  refine X_iload_n C 2 (D (0, .iload_n 2, 1) (mg 0 rfl)) rfl rfl ?_
  refine X_aload_n C 0 (D (1, .aload_n 0, 1) (mg 1 rfl)) rfl rfl ?_
  refine X_iload_n C 1 (D (2, .iload_n 1, 1) (mg 2 rfl)) rfl rfl ?_
  refine X_iload_n C 2 (D (3, .iload_n 2, 1) (mg 3 rfl)) rfl rfl ?_
  refine X_cS (As := [.ref (wA w (q)), .int (nI (j)), .int (d)]) (st := [.int (d)]) C (post := _) (ct_X8_deeperOf hw hr (by omega) (d) h g) kX8_103 (by decide) (by decide) rfl rfl (Nat.le_of_ble_eq_true rfl) (D (4, .invokestatic 103, 3) (mg 4 rfl)) rfl (fun v3 H1 G2 hv3 => ?_)
  obtain ⟨rfl, rfl, rfl⟩ := hv3
  show X k w _ 7 [some (.ref (wA w (q))), some (.int (nI (j))), some (.int (d)), none] [.int (deA (h (q) 30) (h (q) (31 + (j))) (d)), .int (d)] h g
  refine X_iadd C (D (7, .iadd, 1) (mg 5 rfl)) ?_
  refine X_istore_n (ls' := [some (.ref (wA w (q))), some (.int (nI (j))), some (.int (d)), some (.int (d + (deA (h (q) 30) (h (q) (31 + (j))) (d))))]) C 3 (D (8, .istore_n 3, 1) (mg 6 rfl)) rfl (Nat.le_of_ble_eq_true rfl) rfl ?_
  refine X_iload_n C 3 (D (9, .iload_n 3, 1) (mg 7 rfl)) rfl rfl ?_
  refine X_bipush (v := nI (9)) C (D (10, .bipush 9, 2) (mg 8 rfl)) (by decide) ?_
  refine X_icmp_le (tgt := 20) C (D (12, .if_icmp .le 8, 3) (mg 9 rfl)) (by decide) (fun q4 => ?_) (fun q4 => ?_)
  · skip
    refine X_iload_n C 3 (D (20, .iload_n 3, 1) (mg 12 rfl)) rfl rfl ?_
    exact X_iret C (D (21, .ireturn, 1) (mg 13 rfl)) ⟨congrArg (fun z => some (Value.int z)) (if_pos (by assumption)), rfl, rfl⟩
  · skip
    refine X_bipush (v := nI (9)) C (D (15, .bipush 9, 2) (mg 10 rfl)) (by decide) ?_
    refine X_goto (tgt := 21) C (D (17, .goto 4, 3) (mg 11 rfl)) (by decide) ?_
    exact X_iret C (D (21, .ireturn, 1) (mg 13 rfl)) ⟨congrArg (fun z => some (Value.int z)) (if_neg (by assumption)), rfl, rfl⟩
set_option maxHeartbeats 4000000 in
set_option maxRecDepth 100000 in
theorem ct_X8_manyAtLeast {l : Launch} {w : Kw} (hw : wOk w) {q L : Nat} (hr : rw56 w q L) (x : Int32) (h : xI) (g : xJ)  : Ct l w yX8_manyAtLeast cX8_manyAtLeast 4 (some .int) 2 46 [.ref (wA w (q)), .int (x)] h g (px (some (.int (nI (cn (fun c => ¬ hiV (h q (3 + c)) < x) 25)))) h g) := by
  refine Ct_of (ls := [some (.ref (wA w (q))), some (.int (x)), none, none]) (by decide) hw (Nat.le_of_ble_eq_true rfl) rfl (fun k hkl C => ?_)
  have C : Cx k w cX8_manyAtLeast RX8 4 (some .int) 2 46 := C
  have D := dtX8_manyAtLeast
  subst hkl
  refine X_iconst (v := nI (0)) C (D (0, .iconst 0, 1) (mg 0 rfl)) (by decide) ?_
  refine X_istore_n (ls' := [some (.ref (wA w (q))), some (.int (x)), some (.int (nI (0))), none]) C 2 (D (1, .istore_n 2, 1) (mg 1 rfl)) rfl (Nat.le_of_ble_eq_true rfl) rfl ?_
  refine X_iconst (v := nI (0)) C (D (2, .iconst 0, 1) (mg 2 rfl)) (by decide) ?_
  refine X_istore_n (ls' := [some (.ref (wA w (q))), some (.int (x)), some (.int (nI (0))), some (.int (nI (0)))]) C 3 (D (3, .istore_n 3, 1) (mg 3 rfl)) rfl (Nat.le_of_ble_eq_true rfl) rfl ?_
  have lp4 : ∀ (nn4 : Nat) (j : Nat), (j ≤ 25) → 26 - j ≤ nn4 → X k w (Zq k w (px (some (.int (nI (cn (fun c => ¬ hiV (h q (3 + c)) < x) 25)))) h g)) 4 [some (.ref (wA w (q))), some (.int (x)), some (.int (nI (cn (fun c => ¬ hiV (h q (3 + c)) < x) (j)))), some (.int (nI (j)))] [] h g := by
    intro nn4
    induction nn4 with
    | zero => intro j hc4_0 hz; exact absurd hz (by omega)
    | succ nn4 ih4 =>
      intro j hc4_0 hz4
      refine X_iload_n C 3 (D (4, .iload_n 3, 1) (mg 4 rfl)) rfl rfl ?_
      refine X_bipush (v := nI (25)) C (D (5, .bipush 25, 2) (mg 5 rfl)) (by decide) ?_
      refine X_icmp_ge (tgt := 33) C (D (7, .if_icmp .ge 26, 3) (mg 6 rfl)) (by decide) (fun q1 => ?_) (fun q1 => ?_)
      · skip
        have q1 : (j) ≥ (25) := by have z := (nI_leI (a := (25)) (b := (j)) (by omega) (by omega)).mp q1; omega
        refine X_iload_n C 2 (D (33, .iload_n 2, 1) (mg 20 rfl)) rfl rfl ?_
        exact X_iret C (D (34, .ireturn, 1) (mg 21 rfl)) ⟨by rw [show j = 25 by omega], rfl, rfl⟩
      · skip
        have q1 : (j) < (25) := by have z : ¬ ((25) ≤ (j)) := fun u => q1 ((nI_leI (a := (25)) (b := (j)) (by omega) (by omega)).mpr u); omega
        refine X_iload_n C 2 (D (10, .iload_n 2, 1) (mg 7 rfl)) rfl rfl ?_
        refine X_aload_n C 0 (D (11, .aload_n 0, 1) (mg 8 rfl)) rfl rfl ?_
        refine X_iload_n C 3 (D (12, .iload_n 3, 1) (mg 9 rfl)) rfl rfl ?_
        refine X_cS (As := [.ref (wA w (q)), .int (nI (j))]) (st := [.int (nI (cn (fun c => ¬ hiV (h q (3 + c)) < x) (j)))]) C (post := _) (ct_X8_highOf hw hr (by omega) h g) kX8_107 (by decide) (by decide) rfl rfl (Nat.le_of_ble_eq_true rfl) (D (13, .invokestatic 107, 3) (mg 10 rfl)) rfl (fun v4 H2 G3 hv4 => ?_)
        obtain ⟨rfl, rfl, rfl⟩ := hv4
        show X k w _ 16 [some (.ref (wA w (q))), some (.int (x)), some (.int (nI (cn (fun c => ¬ hiV (h q (3 + c)) < x) (j)))), some (.int (nI (j)))] [.int (hiV (h (q) (3 + (j)))), .int (nI (cn (fun c => ¬ hiV (h q (3 + c)) < x) (j)))] h g
        refine X_iload_n C 1 (D (16, .iload_n 1, 1) (mg 11 rfl)) rfl rfl ?_
        refine X_icmp_lt (tgt := 24) C (D (17, .if_icmp .lt 7, 3) (mg 12 rfl)) (by decide) (fun q5 => ?_) (fun q5 => ?_)
        · skip
          refine X_iconst (v := nI (0)) C (D (24, .iconst 0, 1) (mg 15 rfl)) (by decide) ?_
          refine X_iadd C (D (25, .iadd, 1) (mg 16 rfl)) ?_
          refine X_ti (y := nI (cn (fun c => ¬ hiV (h q (3 + c)) < x) (j) + 0)) (nI_add (cn (fun c => ¬ hiV (h q (3 + c)) < x) (j)) (0)) ?_
          refine X_istore_n (ls' := [some (.ref (wA w (q))), some (.int (x)), some (.int (nI (cn (fun c => ¬ hiV (h q (3 + c)) < x) (j) + 0))), some (.int (nI (j)))]) C 2 (D (26, .istore_n 2, 1) (mg 17 rfl)) rfl (Nat.le_of_ble_eq_true rfl) rfl ?_
          refine X_iinc (v := nI (j + 1)) (ls' := [some (.ref (wA w (q))), some (.int (x)), some (.int (nI (cn (fun c => ¬ hiV (h q (3 + c)) < x) (j) + 0))), some (.int (nI (j + 1)))]) C (D (27, .iinc 3 1, 3) (mg 18 rfl)) rfl (nI_add (j) 1) rfl ?_
          refine X_goto (tgt := 4) C (D (30, .goto (-26), 3) (mg 19 rfl)) (by decide) ?_
          refine X_eq (ls' := [some (.ref (wA w (q))), some (.int (x)), some (.int (nI (cn (fun c => ¬ hiV (h q (3 + c)) < x) (j + 1)))), some (.int (nI (j + 1)))]) (st' := []) (h' := h) (g' := g) (by rw [cn_f (fun z => z (by assumption))]) rfl rfl rfl ?_
          exact ih4 (j + 1) (by omega) (by omega)
        · skip
          refine X_iconst (v := nI (1)) C (D (20, .iconst 1, 1) (mg 13 rfl)) (by decide) ?_
          refine X_goto (tgt := 25) C (D (21, .goto 4, 3) (mg 14 rfl)) (by decide) ?_
          refine X_iadd C (D (25, .iadd, 1) (mg 16 rfl)) ?_
          refine X_ti (y := nI (cn (fun c => ¬ hiV (h q (3 + c)) < x) (j) + 1)) (nI_add (cn (fun c => ¬ hiV (h q (3 + c)) < x) (j)) (1)) ?_
          refine X_istore_n (ls' := [some (.ref (wA w (q))), some (.int (x)), some (.int (nI (cn (fun c => ¬ hiV (h q (3 + c)) < x) (j) + 1))), some (.int (nI (j)))]) C 2 (D (26, .istore_n 2, 1) (mg 17 rfl)) rfl (Nat.le_of_ble_eq_true rfl) rfl ?_
          refine X_iinc (v := nI (j + 1)) (ls' := [some (.ref (wA w (q))), some (.int (x)), some (.int (nI (cn (fun c => ¬ hiV (h q (3 + c)) < x) (j) + 1))), some (.int (nI (j + 1)))]) C (D (27, .iinc 3 1, 3) (mg 18 rfl)) rfl (nI_add (j) 1) rfl ?_
          refine X_goto (tgt := 4) C (D (30, .goto (-26), 3) (mg 19 rfl)) (by decide) ?_
          refine X_eq (ls' := [some (.ref (wA w (q))), some (.int (x)), some (.int (nI (cn (fun c => ¬ hiV (h q (3 + c)) < x) (j + 1)))), some (.int (nI (j + 1)))]) (st' := []) (h' := h) (g' := g) (by rw [cn_t (by assumption)]) rfl rfl rfl ?_
          exact ih4 (j + 1) (by omega) (by omega)
  refine X_eq (ls' := [some (.ref (wA w (q))), some (.int (x)), some (.int (nI (cn (fun c => ¬ hiV (h q (3 + c)) < x) (0)))), some (.int (nI (0)))]) (st' := []) (h' := h) (g' := g) rfl rfl rfl rfl ?_
  exact lp4 _ (0) (by omega) (Nat.le_refl _)
