/-! OWN LAYER, 5: String constants -/
def sLen : List Nat := [4, 5, 3, 4, 5]
def sByt : List (List Int32) := [[110, 97, 118, 101], [115, 116, 111, 110, 121], [115, 97, 121], [100, 114, 97, 103], [119, 101, 101, 107, 115]]
def sPl : List Nat := [58, 67, 72, 77, 82]
def sTx : List String := ["nave", "stony", "say", "drag", "weeks"]
/-- what the world's outside says of the String constants -/
def sOk (w : Kw) (aK aV : Nat → Nat) (zr : Value) : Prop := ∀ U : State, wE w U → vk_S 5 sLen sByt aK aV (Aw w) U U.heap ∧ (∀ i, i < 5 → vk_R RX5 (sPl.getD i 0) (sTx.getD i "") (aK i) U) ∧ va_Z "java/lang/String" "COMPACT_STRINGS" "Z" (.int 1) (Aw w) U U.heap ∧ va_Z "jdk/internal/util/Preconditions" "SIOOBE_FORMATTER" "Ljava/util/function/BiFunction;" zr (Aw w) U U.heap
theorem of_nar {o n d : String} {v : Value} {t : Nat} {A B : Nat → Prop} {U : State} (h : va_OF o n d v t B U U.heap) (hAB : ∀ q, q < U.heap.size → A q → B q) : va_OF o n d v t A U U.heap := by
  obtain ⟨cf, k, i, f, cell, h1, h2, h3, h4, h5, h6⟩ := h
  exact ⟨cf, k, i, f, cell, h1, h2, h3, h4, h5, fun z => h6 (hAB _ (Array.getElem?_eq_some_iff.mp h3).1 z)⟩
theorem o_nar {E : String} {t : Nat} {A B : Nat → Prop} {U : State} (h : va_O E t B U U.heap) (hAB : ∀ q, q < U.heap.size → A q → B q) : va_O E t A U U.heap := by
  obtain ⟨cell, h1, h2, h3, h4⟩ := h
  exact ⟨cell, h1, h2, h3, fun z => h4 (hAB _ (Array.getElem?_eq_some_iff.mp h1).1 z)⟩
theorem t_nar {ty : FieldType} {t N : Nat} {f : Nat → Value} {A B : Nat → Prop} {U : State} (h : va_T ty t N f B U U.heap) (hAB : ∀ q, q < U.heap.size → A q → B q) : va_T ty t N f A U U.heap := by
  obtain ⟨cell, h1, h2, h3, h4, h5, h6, h7⟩ := h
  exact ⟨cell, h1, h2, h3, h4, h5, h6, fun z => h7 (hAB _ (Array.getElem?_eq_some_iff.mp h1).1 z)⟩
theorem z_nar {C n d : String} {v : Value} {A B : Nat → Prop} {U : State} (h : va_Z C n d v B U U.heap) (hAB : ∀ q, q < U.heap.size → A q → B q) : va_Z C n d v A U U.heap := by
  obtain ⟨cf, kf, fi, f, a, cell, h1, h2, h3, h4, h5, h6, h7, h8⟩ := h
  exact ⟨cf, kf, fi, f, a, cell, h1, h2, h3, h4, h5, h6, h7, fun z => h8 (hAB _ (Array.getElem?_eq_some_iff.mp h5).1 z)⟩
section XE
variable {k : Kx} {w : Kw} {cc : ByteArray} {own : String} {nL : Nat} {ret : Option FieldType} {fr lo : Nat} {Z : State → Prop} {pc : Nat} {ls ls' : List (Option Value)} {st : List Value} {h : xI} {g : xJ} {post : Option Value → xI → xJ → Prop}
theorem X_getO (C : Cx k w cc own nL ret fr lo) {o n d ref : String} {v : Value} {q index : Nat} (hO : ∀ U, wE w U → va_OF o n d v q (Aw w) U U.heap) (hlk : Cond.fieldLink own index ref n d ∈ gW) (hrf : o = ref) (hd : decode cc pc = .ok (.getfield index, 3)) (kk : X k w Z (pc + 3) ls (v :: st) h g) : X k w Z pc ls (.ref q :: st) h g := by
  obtain ⟨p, l, e, R, s, m, args, below, meth, c, A, cells, slots⟩ := k
  obtain ⟨hx, hb, hml, hown, hts, hr, hl0, hK, hij, hA, ⟨hok, hE, hAw⟩, hR⟩ := C
  intro H locs arr hP hS hl
  subst hrf
  exact vk_getf hx hb (of_nar (hO s hE) hAw) hS hown (hts _ hlk) (fun x h => h) hd (kk H locs arr hP hS hl)
theorem X_gets (C : Cx k w cc own nL ret fr lo) {o n d ref : String} {v : Value} {index : Nat} (hO : ∀ U, wE w U → va_Z o n d v (Aw w) U U.heap) (hlk : Cond.fieldLink own index ref n d ∈ gW) (hrf : o = ref) (hd : decode cc pc = .ok (.getstatic index, 3)) (kk : X k w Z (pc + 3) ls (v :: st) h g) : X k w Z pc ls st h g := by
  obtain ⟨p, l, e, R, s, m, args, below, meth, c, A, cells, slots⟩ := k
  obtain ⟨hx, hb, hml, hown, hts, hr, hl0, hK, hij, hA, ⟨hok, hE, hAw⟩, hR⟩ := C
  intro H locs arr hP hS hl
  subst hrf
  exact va_gets hx hb (z_nar (hO s hE) hAw) hS hown (hts _ hlk) (fun x h => h) hd (kk H locs arr hP hS hl)
theorem X_lenT (C : Cx k w cc own nL ret fr lo) {ty : FieldType} {q N : Nat} {f : Nat → Value} {v : Int32} (hO : ∀ U, wE w U → va_T ty q N f (Aw w) U U.heap) (hv : Int32.ofNat N = v) (hd : decode cc pc = .ok (.arraylength, 1)) (kk : X k w Z (pc + 1) ls (.int v :: st) h g) : X k w Z pc ls (.ref q :: st) h g := by
  obtain ⟨p, l, e, R, s, m, args, below, meth, c, A, cells, slots⟩ := k
  obtain ⟨hx, hb, hml, hown, hts, hr, hl0, hK, hij, hA, ⟨hok, hE, hAw⟩, hR⟩ := C
  intro H locs arr hP hS hl
  exact va_tlen hx hb (t_nar (hO s hE) hAw) hS hv hd (kk H locs arr hP hS hl)
theorem X_tb (C : Cx k w cc own nL ret fr lo) {q N : Nat} {f : Nat → Value} {v i : Int32} (hO : ∀ U, wE w U → va_T .byte q N f (Aw w) U U.heap) (hin : vp_in i N) (hv : f i.toNatClampNeg = .int v) (hd : decode cc pc = .ok (.baload, 1)) (kk : X k w Z (pc + 1) ls (.int v :: st) h g) : X k w Z pc ls (.int i :: .ref q :: st) h g := by
  obtain ⟨p, l, e, R, s, m, args, below, meth, c, A, cells, slots⟩ := k
  obtain ⟨hx, hb, hml, hown, hts, hr, hl0, hK, hij, hA, ⟨hok, hE, hAw⟩, hR⟩ := C
  intro H locs arr hP hS hl
  exact va_tb hx hb (t_nar (hO s hE) hAw) hS hin hv hd (kk H locs arr hP hS hl)
theorem X_ldcS (C : Cx k w cc own nL ret fr lo) {tx : String} {q index : Nat} (hO : ∀ U, wE w U → vk_R own index tx q U) (hd : decode cc pc = .ok (.ldc index, 2)) (kk : X k w Z (pc + 2) ls (.ref q :: st) h g) : X k w Z pc ls st h g := by
  obtain ⟨p, l, e, R, s, m, args, below, meth, c, A, cells, slots⟩ := k
  obtain ⟨hx, hb, hml, hown, hts, hr, hl0, hK, hij, hA, ⟨hok, hE, hAw⟩, hR⟩ := C
  intro H locs arr hP hS hl
  exact va_ldcS hx hb hown (hO s hE) hd (kk H locs arr hP hS hl)
theorem X_i2c (C : Cx k w cc own nL ret fr lo) {x v : Int32} (hd : decode cc pc = .ok (.i2c, 1)) (hv : (x.toUInt32 % 65536).toInt32 = v) (kk : X k w Z (pc + 1) ls (.int v :: st) h g) : X k w Z pc ls (.int x :: st) h g := by
  obtain ⟨p, l, e, R, s, m, args, below, meth, c, A, cells, slots⟩ := k
  obtain ⟨hx, hb, hR⟩ := C
  intro H locs arr hP hS hl
  exact lv_i2c hx hb hd hv (kk H locs arr hP hS hl)
theorem X_nret {ty : FieldType} (C : Cx k w cc own nL (some ty) fr lo) {v : Int32} (hd : decode cc pc = .ok (.ireturn, 1)) (hn : narrow ty (.int v) = .int v) (hq : post (some (.int v)) h g) : X k w (Zq k w post) pc ls [.int v] h g := by
  obtain ⟨p, l, e, R, s, m, args, below, meth, c, A, cells, slots⟩ := k
  obtain ⟨hx, hb, hml, hown, hts, hr, hlk, hR⟩ := C
  intro H locs arr hP hS hl
  exact W.zret hx hb hr hn (fun t ht hW => ⟨⟨_, h, g, rfl, hq, by rw [ht]; exact hP⟩, hS.F ht⟩) hS.2.2 hd hlk
theorem X_cVO (C : Cx k w cc own nL ret fr lo) {y : MethodName} {bytes : ByteArray} {maxL index n fr' lo' q0 : Nat} {rt : Option FieldType} {As st0 : List Value} (hO : ∀ U, wE w U → va_O "java/lang/String" q0 (Aw w) U U.heap) (hM : Ct k.2.1 w y bytes maxL rt fr' lo' (.ref q0 :: As) h g post) (hk : kV own index "java/lang/String" y bytes maxL rt n) (hf : fr' + 1 ≤ fr) (hq : 8 + (maxL + 11) + lo' ≤ lo) (hn : As.length = n) (hs : As.reverse ++ .ref q0 :: st = st0) (hc : (st.map fun v => v.category).sum ≤ 8) (hd : decode cc pc = .ok (.invokevirtual index, 3)) (hls : ls.length = nL)
    (kk : ∀ v h' g', post v h' g' → X k w Z (pc + 3) ls (v.toList ++ st) h' g') : X k w Z pc ls st0 h g := by
  obtain ⟨p, l, e, R, s, m, args, below, meth, c, A, cells, slots⟩ := k
  intro H locs arr hP hS hl
  have hp := xc_pre (As := .ref q0 :: As) C hP hS
  obtain ⟨hx, hb, hml, hown, hts, hr, hlk, hK, hij, hA, ⟨hok, hE, hAw⟩, hfr, hlo, hcs, hss⟩ := C
  obtain ⟨k1, k2, k2b, k3, k4, k5⟩ := hk
  subst hs
  have hrc : ∃ cell : Cell, H[q0]? = some cell ∧ cell.vm.isStatics = false ∧ s.vm.findClass "java/lang/String" = some cell.cls := by
    obtain ⟨cell, h1, h2, h3, -⟩ := (o_nar (hO s hE) hAw).kept hS.2.1
    exact ⟨cell, h1, h2, h3⟩
  refine xc_go (va_runV (Ts := gW) (own := own) (C := "java/lang/String") (cc := cc) (nL := nL) (n := n) (bytes := bytes) (maxL := maxL) (ret := rt) (As := As) (rest := st) (index := index) ⟨hx, hb, hml, hown, hts⟩ hM ⟨callB_of n hts (gL k1) rfl rfl rfl (hts _ k3) (hts _ k4) k5 ⟨by rw [hfr]; exact hf, by rw [hlo]; exact hq⟩, hts _ k2, hts _ k2b⟩ ⟨hp.1, hrc, hp.2⟩ rfl hn (by rw [← hls]; exact hl.1) rfl (lv_room hc) hd ⟨hcs, hss⟩) hS hl hA kk
end XE
theorem s_len : ∀ i, i < 5 → (sLen.getD i 0 ≤ 5 ∧ nI (sLen.getD i 0) >>> ((0 : Int32) &&& 31) = nI (sLen.getD i 0)) := by decide
def sCh (i j : Nat) : Int32 := (sByt.getD i []).getD j 0
theorem s_ch : ∀ i, i < 5 → ∀ j, j < sLen.getD i 0 → ((((sByt.getD i []).getD j 0 &&& nI 255).toUInt32 % 65536).toInt32 = sCh i j ∧ narrow .char (.int (sCh i j)) = .int (sCh i j)) := by decide
set_option maxHeartbeats 4000000 in
set_option maxRecDepth 100000 in
theorem ct_J0_coder_7d493 {l : Launch} {w : Kw} (hw : wOk w)  {aK aV : Nat → Nat} {zr : Value} (hs : sOk w aK aV zr) {i : Nat} (hi : i < 5) (h : xI) (g : xJ)  : Ct l w yJ0_coder_7d493 cJ0_coder_7d493 1 (some .byte) 0 0 [.ref (aK (i))] h g (px (some (.int 0)) h g) := by
  refine Ct_of (ls := [some (.ref (aK (i)))]) (by decide) hw (Nat.le_of_ble_eq_true rfl) rfl (fun k hkl C => ?_)
  have C : Cx k w cJ0_coder_7d493 RJ0 1 (some .byte) 0 0 := C
  have D := dtJ0_coder_7d493
  subst hkl
  refine X_gets (v := .int ((1 : Int32))) C (fun U e => (hs U e).2.2.1) fJ0_38 rfl (D (0, .getstatic 38, 3) (mg 0 rfl)) ?_
  refine X_if_eq (tgt := 13) C (D (3, .ifCond .eq 10, 3) (mg 1 rfl)) (by decide) (fun q1 => ?_) (fun q1 => ?_)
  · skip
    exact absurd q1 (by decide)
  · skip
    refine X_aload_n C 0 (D (6, .aload_n 0, 1) (mg 2 rfl)) rfl rfl ?_
    refine X_getO (v := .int ((0 : Int32))) C (fun U e => ((hs U e).1.1 _ hi).2.1) fJ0_15 rfl (D (7, .getfield 15, 3) (mg 3 rfl)) ?_
    refine X_goto (tgt := 14) C (D (10, .goto 4, 3) (mg 4 rfl)) (by decide) ?_
    exact X_nret C (D (14, .ireturn, 1) (mg 6 rfl)) rfl ⟨rfl, rfl, rfl⟩
set_option maxHeartbeats 4000000 in
set_option maxRecDepth 100000 in
theorem ct_J0_isLatin1_aae02 {l : Launch} {w : Kw} (hw : wOk w)  {aK aV : Nat → Nat} {zr : Value} (hs : sOk w aK aV zr) {i : Nat} (hi : i < 5) (h : xI) (g : xJ)  : Ct l w yJ0_isLatin1_aae02 cJ0_isLatin1_aae02 1 (some .boolean) 0 0 [.ref (aK (i))] h g (px (some (.int (nI 1))) h g) := by
  refine Ct_of (ls := [some (.ref (aK (i)))]) (by decide) hw (Nat.le_of_ble_eq_true rfl) rfl (fun k hkl C => ?_)
  have C : Cx k w cJ0_isLatin1_aae02 RJ0 1 (some .boolean) 0 0 := C
  have D := dtJ0_isLatin1_aae02
  subst hkl
  refine X_gets (v := .int ((1 : Int32))) C (fun U e => (hs U e).2.2.1) fJ0_38 rfl (D (0, .getstatic 38, 3) (mg 0 rfl)) ?_
  refine X_if_eq (tgt := 17) C (D (3, .ifCond .eq 14, 3) (mg 1 rfl)) (by decide) (fun q1 => ?_) (fun q1 => ?_)
  · skip
    exact absurd q1 (by decide)
  · skip
    refine X_aload_n C 0 (D (6, .aload_n 0, 1) (mg 2 rfl)) rfl rfl ?_
    refine X_getO (v := .int ((0 : Int32))) C (fun U e => ((hs U e).1.1 _ hi).2.1) fJ0_15 rfl (D (7, .getfield 15, 3) (mg 3 rfl)) ?_
    refine X_if_ne (tgt := 17) C (D (10, .ifCond .ne 7, 3) (mg 4 rfl)) (by decide) (fun q2 => ?_) (fun q2 => ?_)
    · skip
      exact absurd q2 (by decide)
    · skip
      refine X_iconst (v := nI (1)) C (D (13, .iconst 1, 1) (mg 5 rfl)) (by decide) ?_
      refine X_goto (tgt := 18) C (D (14, .goto 4, 3) (mg 6 rfl)) (by decide) ?_
      exact X_zret C (D (18, .ireturn, 1) (mg 8 rfl)) rfl ⟨rfl, rfl, rfl⟩
set_option maxHeartbeats 4000000 in
set_option maxRecDepth 100000 in
theorem ct_J0_length_8abf5 {l : Launch} {w : Kw} (hw : wOk w)  {aK aV : Nat → Nat} {zr : Value} (hs : sOk w aK aV zr) {i : Nat} (hi : i < 5) (h : xI) (g : xJ)  : Ct l w yJ0_length_8abf5 cJ0_length_8abf5 1 (some .int) 1 20 [.ref (aK (i))] h g (px (some (.int (nI (sLen.getD i 0)))) h g) := by
  refine Ct_of (ls := [some (.ref (aK (i)))]) (by decide) hw (Nat.le_of_ble_eq_true rfl) rfl (fun k hkl C => ?_)
  have C : Cx k w cJ0_length_8abf5 RJ0 1 (some .int) 1 20 := C
  have D := dtJ0_length_8abf5
  subst hkl
  refine X_aload_n C 0 (D (0, .aload_n 0, 1) (mg 0 rfl)) rfl rfl ?_
  refine X_getO (v := .ref (aV (i))) C (fun U e => ((hs U e).1.1 _ hi).2.2.1) fJ0_9 rfl (D (1, .getfield 9, 3) (mg 1 rfl)) ?_
  refine X_lenT (v := nI (sLen.getD (i) 0)) C (fun U e => ((hs U e).1.1 _ hi).2.2.2) rfl (D (4, .arraylength, 1) (mg 2 rfl)) ?_
  refine X_aload_n C 0 (D (5, .aload_n 0, 1) (mg 3 rfl)) rfl rfl ?_
  refine X_cVO (As := []) (st := [.int (nI (sLen.getD (i) 0))]) C (post := _) (fun U e => ((hs U e).1.1 _ hi).1) (ct_J0_coder_7d493 hw hs (i := i) hi h g) kJ0_335 (by decide) (by decide) rfl rfl (Nat.le_of_ble_eq_true rfl) (D (6, .invokevirtual 335, 3) (mg 4 rfl)) rfl (fun v3 H1 G2 hv3 => ?_)
  obtain ⟨rfl, rfl, rfl⟩ := hv3
  show X k w _ 9 [some (.ref (aK (i)))] [.int ((0 : Int32)), .int (nI (sLen.getD (i) 0))] h g
  refine X_ishr C (D (9, .ishr, 1) (mg 5 rfl)) ?_
  refine X_ti (y := nI (sLen.getD (i) 0)) (s_len i hi).2 ?_
  exact X_iret C (D (10, .ireturn, 1) (mg 6 rfl)) ⟨rfl, rfl, rfl⟩
set_option maxHeartbeats 4000000 in
set_option maxRecDepth 100000 in
theorem ct_J3c_n {l : Launch} {w : Kw} (hw : wOk w) {a n : Nat} (ha : a < n) (hn : n < 2147483648) (h : xI) (g : xJ)  : Ct l w yJ3_checkIndex_8e157 cJ3_checkIndex_8e157 3 (some .int) 0 0 [.int (nI (a)), .int (nI (n)), .null] h g (px (some (.int (nI a))) h g) := by
  refine Ct_of (ls := [some (.int (nI (a))), some (.int (nI (n))), some (.null)]) (by decide) hw (Nat.le_of_ble_eq_true rfl) rfl (fun k hkl C => ?_)
  have C : Cx k w cJ3_checkIndex_8e157 RJ3 3 (some .int) 0 0 := C
  have D := dtJ3_checkIndex_8e157
  subst hkl
  refine X_iload_n C 0 (D (0, .iload_n 0, 1) (mg 0 rfl)) rfl rfl ?_
  refine X_if_lt (tgt := 9) C (D (1, .ifCond .lt 8, 3) (mg 1 rfl)) (by decide) (fun q1 => ?_) (fun q1 => ?_)
  · skip
    have q1 : (a) < (0) := by have z := (nI_ltI (a := (a)) (b := (0)) (by omega) (by omega)).mp q1; omega
    exact absurd q1 (by omega)
  · skip
    have q1 : (a) ≥ (0) := by have z : ¬ ((a) < (0)) := fun u => q1 ((nI_ltI (a := (a)) (b := (0)) (by omega) (by omega)).mpr u); omega
    refine X_iload_n C 0 (D (4, .iload_n 0, 1) (mg 2 rfl)) rfl rfl ?_
    refine X_iload_n C 1 (D (5, .iload_n 1, 1) (mg 3 rfl)) rfl rfl ?_
    refine X_icmp_lt (tgt := 16) C (D (6, .if_icmp .lt 10, 3) (mg 4 rfl)) (by decide) (fun q2 => ?_) (fun q2 => ?_)
    · skip
      have q2 : (a) < (n) := by have z := (nI_ltI (a := (a)) (b := (n)) (by omega) (by omega)).mp q2; omega
      refine X_iload_n C 0 (D (16, .iload_n 0, 1) (mg 10 rfl)) rfl rfl ?_
      exact X_iret C (D (17, .ireturn, 1) (mg 11 rfl)) ⟨rfl, rfl, rfl⟩
    · skip
      have q2 : (a) ≥ (n) := by have z : ¬ ((a) < (n)) := fun u => q2 ((nI_ltI (a := (a)) (b := (n)) (by omega) (by omega)).mpr u); omega
      omega
set_option maxHeartbeats 4000000 in
set_option maxRecDepth 100000 in
theorem ct_J3c_r {l : Launch} {w : Kw} (hw : wOk w) {a n : Nat} (ha : a < n) (hn : n < 2147483648) (ra : Nat) (h : xI) (g : xJ)  : Ct l w yJ3_checkIndex_8e157 cJ3_checkIndex_8e157 3 (some .int) 0 0 [.int (nI (a)), .int (nI (n)), .ref ra] h g (px (some (.int (nI a))) h g) := by
  refine Ct_of (ls := [some (.int (nI (a))), some (.int (nI (n))), some (.ref ra)]) (by decide) hw (Nat.le_of_ble_eq_true rfl) rfl (fun k hkl C => ?_)
  have C : Cx k w cJ3_checkIndex_8e157 RJ3 3 (some .int) 0 0 := C
  have D := dtJ3_checkIndex_8e157
  subst hkl
  refine X_iload_n C 0 (D (0, .iload_n 0, 1) (mg 0 rfl)) rfl rfl ?_
  refine X_if_lt (tgt := 9) C (D (1, .ifCond .lt 8, 3) (mg 1 rfl)) (by decide) (fun q1 => ?_) (fun q1 => ?_)
  · skip
    have q1 : (a) < (0) := by have z := (nI_ltI (a := (a)) (b := (0)) (by omega) (by omega)).mp q1; omega
    exact absurd q1 (by omega)
  · skip
    have q1 : (a) ≥ (0) := by have z : ¬ ((a) < (0)) := fun u => q1 ((nI_ltI (a := (a)) (b := (0)) (by omega) (by omega)).mpr u); omega
    refine X_iload_n C 0 (D (4, .iload_n 0, 1) (mg 2 rfl)) rfl rfl ?_
    refine X_iload_n C 1 (D (5, .iload_n 1, 1) (mg 3 rfl)) rfl rfl ?_
    refine X_icmp_lt (tgt := 16) C (D (6, .if_icmp .lt 10, 3) (mg 4 rfl)) (by decide) (fun q2 => ?_) (fun q2 => ?_)
    · skip
      have q2 : (a) < (n) := by have z := (nI_ltI (a := (a)) (b := (n)) (by omega) (by omega)).mp q2; omega
      refine X_iload_n C 0 (D (16, .iload_n 0, 1) (mg 10 rfl)) rfl rfl ?_
      exact X_iret C (D (17, .ireturn, 1) (mg 11 rfl)) ⟨rfl, rfl, rfl⟩
    · skip
      have q2 : (a) ≥ (n) := by have z : ¬ ((a) < (n)) := fun u => q2 ((nI_ltI (a := (a)) (b := (n)) (by omega) (by omega)).mpr u); omega
      omega
set_option maxHeartbeats 4000000 in
set_option maxRecDepth 100000 in
theorem ct_J0c_n {l : Launch} {w : Kw} (hw : wOk w)  {aK aV : Nat → Nat} (hs : sOk w aK aV (.null)) {a n : Nat} (ha : a < n) (hn : n < 2147483648) (h : xI) (g : xJ)  : Ct l w yJ0_checkIndex_df160 cJ0_checkIndex_df160 2 none 1 22 [.int (nI (a)), .int (nI (n))] h g (px none h g) := by
  refine Ct_of (ls := [some (.int (nI (a))), some (.int (nI (n)))]) (by decide) hw (Nat.le_of_ble_eq_true rfl) rfl (fun k hkl C => ?_)
  have C : Cx k w cJ0_checkIndex_df160 RJ0 2 none 1 22 := C
  have D := dtJ0_checkIndex_df160
  subst hkl
  refine X_iload_n C 0 (D (0, .iload_n 0, 1) (mg 0 rfl)) rfl rfl ?_
  refine X_iload_n C 1 (D (1, .iload_n 1, 1) (mg 1 rfl)) rfl rfl ?_
  refine X_gets (v := .null) C (fun U e => (hs U e).2.2.2) fJ0_1053 rfl (D (2, .getstatic 1053, 3) (mg 2 rfl)) ?_
  refine X_cS (As := [.int (nI (a)), .int (nI (n)), .null]) (st := []) C (post := _) (ct_J3c_n hw (a := a) (n := n) (by omega) (by omega) h g) kJ0_1059 (by decide) (by decide) rfl rfl (Nat.le_of_ble_eq_true rfl) (D (5, .invokestatic 1059, 3) (mg 3 rfl)) rfl (fun v3 H1 G2 hv3 => ?_)
  obtain ⟨rfl, rfl, rfl⟩ := hv3
  show X k w _ 8 [some (.int (nI (a))), some (.int (nI (n)))] [.int (nI (a))] h g
  refine X_pop C (D (8, .pop, 1) (mg 4 rfl)) rfl ?_
  exact X_vret C (D (9, .return_, 1) (mg 5 rfl)) ⟨rfl, rfl, rfl⟩
set_option maxHeartbeats 4000000 in
set_option maxRecDepth 100000 in
theorem ct_J0c_r {l : Launch} {w : Kw} (hw : wOk w)  {aK aV : Nat → Nat} (ra : Nat) (hs : sOk w aK aV (.ref ra)) {a n : Nat} (ha : a < n) (hn : n < 2147483648) (h : xI) (g : xJ)  : Ct l w yJ0_checkIndex_df160 cJ0_checkIndex_df160 2 none 1 22 [.int (nI (a)), .int (nI (n))] h g (px none h g) := by
  refine Ct_of (ls := [some (.int (nI (a))), some (.int (nI (n)))]) (by decide) hw (Nat.le_of_ble_eq_true rfl) rfl (fun k hkl C => ?_)
  have C : Cx k w cJ0_checkIndex_df160 RJ0 2 none 1 22 := C
  have D := dtJ0_checkIndex_df160
  subst hkl
  refine X_iload_n C 0 (D (0, .iload_n 0, 1) (mg 0 rfl)) rfl rfl ?_
  refine X_iload_n C 1 (D (1, .iload_n 1, 1) (mg 1 rfl)) rfl rfl ?_
  refine X_gets (v := .ref ra) C (fun U e => (hs U e).2.2.2) fJ0_1053 rfl (D (2, .getstatic 1053, 3) (mg 2 rfl)) ?_
  refine X_cS (As := [.int (nI (a)), .int (nI (n)), .ref ra]) (st := []) C (post := _) (ct_J3c_r hw (a := a) (n := n) (by omega) (by omega) (ra) h g) kJ0_1059 (by decide) (by decide) rfl rfl (Nat.le_of_ble_eq_true rfl) (D (5, .invokestatic 1059, 3) (mg 3 rfl)) rfl (fun v3 H1 G2 hv3 => ?_)
  obtain ⟨rfl, rfl, rfl⟩ := hv3
  show X k w _ 8 [some (.int (nI (a))), some (.int (nI (n)))] [.int (nI (a))] h g
  refine X_pop C (D (8, .pop, 1) (mg 4 rfl)) rfl ?_
  exact X_vret C (D (9, .return_, 1) (mg 5 rfl)) ⟨rfl, rfl, rfl⟩
theorem ct_J0c {l : Launch} {w : Kw} (hw : wOk w) {aK aV : Nat → Nat} {zr : Value} (hs : sOk w aK aV zr) (hz : zr = .null ∨ ∃ ra, zr = .ref ra) {a n : Nat} (ha : a < n) (hn : n < 2147483648) (h : xI) (g : xJ) : Ct l w yJ0_checkIndex_df160 cJ0_checkIndex_df160 2 none 1 22 [.int (nI a), .int (nI n)] h g (px none h g) := by
  rcases hz with rfl | ⟨ra, rfl⟩
  · exact ct_J0c_n hw hs ha hn h g
  · exact ct_J0c_r hw ra hs ha hn h g
set_option maxHeartbeats 4000000 in
set_option maxRecDepth 100000 in
theorem ct_J1_charAt_3b067 {l : Launch} {w : Kw} (hw : wOk w)  {aK aV : Nat → Nat} {zr : Value} (hs : sOk w aK aV zr) (hz : zr = .null ∨ ∃ ra, zr = .ref ra) {i j : Nat} (hi : i < 5) (hj : j < sLen.getD i 0) (h : xI) (g : xJ)  : Ct l w yJ1_charAt_3b067 cJ1_charAt_3b067 2 (some .char) 2 43 [.ref (aV (i)), .int (nI (j))] h g (px (some (.int (sCh i j))) h g) := by
  refine Ct_of (ls := [some (.ref (aV (i))), some (.int (nI (j)))]) (by decide) hw (Nat.le_of_ble_eq_true rfl) rfl (fun k hkl C => ?_)
  have C : Cx k w cJ1_charAt_3b067 RJ1 2 (some .char) 2 43 := C
  have D := dtJ1_charAt_3b067
  subst hkl
  have hl5 := (s_len i hi).1
  refine X_iload_n C 1 (D (0, .iload_n 1, 1) (mg 0 rfl)) rfl rfl ?_
  refine X_aload_n C 0 (D (1, .aload_n 0, 1) (mg 1 rfl)) rfl rfl ?_
  refine X_lenT (v := nI (sLen.getD (i) 0)) C (fun U e => ((hs U e).1.1 _ hi).2.2.2) rfl (D (2, .arraylength, 1) (mg 2 rfl)) ?_
  refine X_cS (As := [.int (nI (j)), .int (nI (sLen.getD (i) 0))]) (st := []) C (post := _) (ct_J0c hw hs hz (a := j) (n := sLen.getD (i) 0) (by omega) (by omega) h g) kJ1_9 (by decide) (by decide) rfl rfl (Nat.le_of_ble_eq_true rfl) (D (3, .invokestatic 9, 3) (mg 3 rfl)) rfl (fun v3 H1 G2 hv3 => ?_)
  obtain ⟨rfl, rfl, rfl⟩ := hv3
  show X k w _ 6 [some (.ref (aV (i))), some (.int (nI (j)))] [] h g
  refine X_aload_n C 0 (D (6, .aload_n 0, 1) (mg 4 rfl)) rfl rfl ?_
  refine X_iload_n C 1 (D (7, .iload_n 1, 1) (mg 5 rfl)) rfl rfl ?_
  refine X_tb (v := (sByt.getD (i) []).getD (j) 0) C (fun U e => ((hs U e).1.1 _ hi).2.2.2) (vp_in_nI (by omega) (by omega)) (by rw [nI_clamp (by omega)]) (D (8, .baload, 1) (mg 6 rfl)) ?_
  refine X_sipush (v := nI (255)) C (D (9, .sipush 255, 3) (mg 7 rfl)) (by decide) ?_
  refine X_iand C (D (12, .iand, 1) (mg 8 rfl)) ?_
  refine X_i2c (v := sCh i j) C (D (13, .i2c, 1) (mg 9 rfl)) (s_ch i hi j hj).1 ?_
  exact X_nret C (D (14, .ireturn, 1) (mg 10 rfl)) (s_ch i hi j hj).2 ⟨rfl, rfl, rfl⟩
set_option maxHeartbeats 4000000 in
set_option maxRecDepth 100000 in
theorem ct_J0_charAt_5068e {l : Launch} {w : Kw} (hw : wOk w)  {aK aV : Nat → Nat} {zr : Value} (hs : sOk w aK aV zr) (hz : zr = .null ∨ ∃ ra, zr = .ref ra) {i j : Nat} (hi : i < 5) (hj : j < sLen.getD i 0) (h : xI) (g : xJ)  : Ct l w yJ0_charAt_5068e cJ0_charAt_5068e 2 (some .char) 3 64 [.ref (aK (i)), .int (nI (j))] h g (px (some (.int (sCh i j))) h g) := by
  refine Ct_of (ls := [some (.ref (aK (i))), some (.int (nI (j)))]) (by decide) hw (Nat.le_of_ble_eq_true rfl) rfl (fun k hkl C => ?_)
  have C : Cx k w cJ0_charAt_5068e RJ0 2 (some .char) 3 64 := C
  have D := dtJ0_charAt_5068e
  subst hkl
  refine X_aload_n C 0 (D (0, .aload_n 0, 1) (mg 0 rfl)) rfl rfl ?_
  refine X_cVO (As := []) (st := []) C (post := _) (fun U e => ((hs U e).1.1 _ hi).1) (ct_J0_isLatin1_aae02 hw hs (i := i) hi h g) kJ0_492 (by decide) (by decide) rfl rfl (Nat.le_of_ble_eq_true rfl) (D (1, .invokevirtual 492, 3) (mg 1 rfl)) rfl (fun v3 H1 G2 hv3 => ?_)
  obtain ⟨rfl, rfl, rfl⟩ := hv3
  show X k w _ 4 [some (.ref (aK (i))), some (.int (nI (j)))] [.int (nI (1))] h g
  refine X_if_eq (tgt := 16) C (D (4, .ifCond .eq 12, 3) (mg 2 rfl)) (by decide) (fun q4 => ?_) (fun q4 => ?_)
  · skip
    exact absurd q4 (by decide)
  · skip
    refine X_aload_n C 0 (D (7, .aload_n 0, 1) (mg 3 rfl)) rfl rfl ?_
    refine X_getO (v := .ref (aV (i))) C (fun U e => ((hs U e).1.1 _ hi).2.2.1) fJ0_9 rfl (D (8, .getfield 9, 3) (mg 4 rfl)) ?_
    refine X_iload_n C 1 (D (11, .iload_n 1, 1) (mg 5 rfl)) rfl rfl ?_
    refine X_cS (As := [.ref (aV (i)), .int (nI (j))]) (st := []) C (post := _) (ct_J1_charAt_3b067 hw hs hz (i := i) (j := j) hi hj h g) kJ0_495 (by decide) (by decide) rfl rfl (Nat.le_of_ble_eq_true rfl) (D (12, .invokestatic 495, 3) (mg 6 rfl)) rfl (fun v7 H5 G6 hv7 => ?_)
    obtain ⟨rfl, rfl, rfl⟩ := hv7
    show X k w _ 15 [some (.ref (aK (i))), some (.int (nI (j)))] [.int (sCh (i) (j))] h g
    exact X_nret C (D (15, .ireturn, 1) (mg 7 rfl)) (s_ch i hi j hj).2 ⟨rfl, rfl, rfl⟩
