/-! OWN LAYER, 4: arraycopy, ineg, ldc_w, weak ends; the JDK's static methods -/
theorem nI_nm {n : Nat} (h : n < 2147483648) : ¬ nI n = (-1 : Int32) := by
  intro e
  have := congrArg Int32.toInt e
  rw [nI_toInt (by omega), show ((-1 : Int32)).toInt = -1 from by decide] at this
  omega
theorem mp_n (h : xI) (q a n : Nat) (f : Int32 → Int32) {p : Nat} (i : Nat) (hp : p ≠ q) : mp h q a n f p i = h p i := by
  unfold mp; rw [if_neg (fun z => hp z.1)]
theorem mp_o (h : xI) (q a n : Nat) (f : Int32 → Int32) (p : Nat) {i : Nat} (hi : i < a ∨ a + n ≤ i) : mp h q a n f p i = h p i := by
  unfold mp; rw [if_neg (by omega)]
theorem ce_row {ay : Nat → ClassId} {ad : Nat → Nat} {h h' : xI} {g : xJ} {q : Nat} (e : h q = h' q) (s : xS) : ce ay ad h g q s = ce ay ad h' g q s := by
  match s with
  | .inl o =>
    simp only [ce]
    congr 2
    refine fl_cong ad _ _ _ _ q q o.2 0 (fun k t _ => ?_)
    match t with
    | 0 => simp only [fk]; rw [congrFun e (0 + k)]
    | 1 => rfl
    | t + 2 => rfl
  | .inr (.inl r) =>
    simp only [ce]
    rw [e]
  | .inr (.inr ps) => rfl
theorem wl_copy {sh : Nat → xS} {N : Nat} {ay : Nat → ClassId} {ad : Nat → Nat} {h : xI} {g : xJ} {p0 p1 t n1 a b n : Nat} (hp : p1 < N) (hs : sh p1 = .inr (.inl (t, n1))) : (wl sh N ay ad h g).set p1 (ad p1, .inl (ay t, n1, .inl (va_cpy (h p0) (h p1) a b n))) = wl sh N ay ad (cpS h p0 a p1 b n) g := by
  refine wl_set hp (fun q _ hq => ce_row (funext (fun i => (cpS_n h p0 a p1 b n i hq).symm)) _) ?_
  rw [hs]
  simp only [ce]
  congr 4
  funext i
  unfold cpS va_cpy
  by_cases e : b ≤ i ∧ i < b + n
  · rw [if_pos e, if_pos ⟨rfl, e⟩, Nat.add_comm]
  · rw [if_neg e, if_neg (fun z => e z.2)]
def mnI (a b : Int32) : Int32 := if b < a then b else a
def mxI (a b : Int32) : Int32 := if a < b then b else a
def abI (a : Int32) : Int32 := if 0 ≤ a then a else 0 - a
theorem cdMin : cJ9_min_7cf53 = Lib.Math.min.code := by decide +kernel
theorem cdMax : cJ9_max_7cf53 = Lib.Math.max.code := by decide +kernel
theorem cdAbs : cJ9_abs_0f7a4 = Lib.Math.abs.code := by decide +kernel
section XR2
variable {k : Kx} {w : Kw} {cc : ByteArray} {own : String} {nL : Nat} {ret : Option FieldType} {fr lo : Nat} {Z : State → Prop} {pc : Nat} {ls ls' : List (Option Value)} {st : List Value} {h : xI} {g : xJ}
theorem X_ineg (C : Cx k w cc own nL ret fr lo) {x : Int32} (hd : decode cc pc = .ok (.ineg, 1)) (kk : X k w Z (pc + 1) ls (.int (-x) :: st) h g) : X k w Z pc ls (.int x :: st) h g := by
  obtain ⟨p, l, e, R, s, m, args, below, meth, c, A, cells, slots⟩ := k
  obtain ⟨hx, hb, hR⟩ := C
  intro H locs arr hP hS hl
  exact lv_ineg hx hb hd (kk H locs arr hP hS hl)
theorem X_ldcw (C : Cx k w cc own nL ret fr lo) {index : Nat} {v : Int32} (hd : decode cc pc = .ok (.ldc_w index, 3)) (hc : Cond.constant own index v ∈ gW) (kk : X k w Z (pc + 3) ls (.int v :: st) h g) : X k w Z pc ls st h g := by
  obtain ⟨p, l, e, R, s, m, args, below, meth, c, A, cells, slots⟩ := k
  obtain ⟨hx, hb, hml, hown, hts, hR⟩ := C
  intro H locs arr hP hS hl
  exact lv_ldcw hx hb hown (hts _ hc) hd (kk H locs arr hP hS hl)
theorem nfw : nativeFrameWords "java/lang/System" "arraycopy" 5 = 7 := by decide
theorem X_copy (C : Cx k w cc own nL ret fr lo) (p0 p1 : Nat) {n0 n1 a b n index : Nat} (hp0 : p0 < wN w) (hs0 : wS w p0 = .inr (.inl (0, n0))) (hp1 : p1 < wN w) (hs1 : wS w p1 = .inr (.inl (0, n1))) (h4 : a + n ≤ n0) (h5 : b + n ≤ n1) (hn0 : n0 < 2147483648) (hn1 : n1 < 2147483648) (hk : kC own index) (hd : decode cc pc = .ok (.invokestatic index, 3)) (hf : 1 ≤ fr) (hq : 8 + 18 ≤ lo) (hc : (st.map fun v => v.category).sum ≤ 8) (hls : ls.length = nL) (kk : X k w Z (pc + 3) ls st (cpS h p0 a p1 b n) g) : X k w Z pc ls (.int (nI n) :: .int (nI b) :: .ref (wA w p1) :: .int (nI a) :: .ref (wA w p0) :: st) h g := by
  obtain ⟨p, l, e, R, s, m, args, below, meth, c, A, cells, slots⟩ := k
  obtain ⟨hx, hb, hml, hown, hts, hr, hlk, hK, hij, hA, hO, hfr, hlo, hcs, hss⟩ := C
  intro H locs arr hP hS hl
  obtain ⟨k1, k2, k3, k4⟩ := hk
  have he0 : (wW w h g)[p0]? = some (wA w p0, .inl (wY_ w 0, n0, .inl (h p0))) := by
    unfold wW; rw [wl_get hp0, hs0]; rfl
  have he1 : (wW w h g)[p1]? = some (wA w p1, .inl (wY_ w 0, n1, .inl (h p1))) := by
    unfold wW; rw [wl_get hp1, hs1]; rfl
  have ea : (nI a).toNatClampNeg = a := nI_clamp (by omega)
  have eb : (nI b).toNatClampNeg = b := nI_clamp (by omega)
  have en : (nI n).toNatClampNeg = n := nI_clamp (by omega)
  refine va_copyi hx hb (by rw [hml, ← hls]; exact hl.1.symm) hown (hts _ k1) (hts _ k2) (hts _ k3) (hts _ k4) hK hP (wl_D hij hA h g) hS p0 p1 0 0 he0 he1 rfl rfl rfl (nI_pos (by omega)) (nI_pos (by omega)) (nI_pos (by omega)) (by rw [ea, en]; exact h4) (by rw [eb, en]; exact h5) (fun i hi => rfl) (by rw [hfr]; exact hf) (by rw [nfw, hlo]; omega) hd (fun H1 locs1 hP1 hD1 hS1 => ?_)
  rw [ea, eb, en] at hP1
  refine kk H1 locs1 arr ?_ hS1 hl
  have z := wl_copy (sh := wS w) (N := wN w) (ay := wY_ w) (ad := wA w) (h := h) (g := g) (p0 := p0) (a := a) (b := b) (n := n) hp1 hs1
  unfold wW at hP1 ⊢
  rw [z] at hP1
  exact hP1
theorem X_mmin (C : Cx k w cc own nL ret fr lo) {index : Nat} {x y : Int32} (hk : kS own index yJ9_min_7cf53 cJ9_min_7cf53 2 (some .int) 2) (hf : 1 ≤ fr) (hq : 8 + 13 ≤ lo) (hc : (st.map fun v => v.category).sum ≤ 8) (hls : ls.length = nL) (hd : decode cc pc = .ok (.invokestatic index, 3)) (kk : X k w Z (pc + 3) ls (.int (mnI x y) :: st) h g) : X k w Z pc ls (.int y :: .int x :: st) h g := by
  obtain ⟨p, l, e, R, s, m, args, below, meth, c, A, cells, slots⟩ := k
  obtain ⟨hx, hb, hml, hown, hts, hr, hlk, hK, hij, hA, hO, hfr, hlo, hcs, hss⟩ := C
  intro H locs arr hP hS hl
  obtain ⟨k1, k2, k3, k4, -⟩ := hk
  rw [cdMin] at k1
  exact va_mmin hx hb (by rw [hml, ← hls]; exact hl.1.symm) hown (hts _ k4) (hts _ k2) (hts _ k3) (hts _ k1) (by rw [hfr]; exact hf) (by rw [hlo]; omega) hcs hss hd (kk H locs arr hP hS hl)
theorem X_mmax (C : Cx k w cc own nL ret fr lo) {index : Nat} {x y : Int32} (hk : kS own index yJ9_max_7cf53 cJ9_max_7cf53 2 (some .int) 2) (hf : 1 ≤ fr) (hq : 8 + 13 ≤ lo) (hc : (st.map fun v => v.category).sum ≤ 8) (hls : ls.length = nL) (hd : decode cc pc = .ok (.invokestatic index, 3)) (kk : X k w Z (pc + 3) ls (.int (mxI x y) :: st) h g) : X k w Z pc ls (.int y :: .int x :: st) h g := by
  obtain ⟨p, l, e, R, s, m, args, below, meth, c, A, cells, slots⟩ := k
  obtain ⟨hx, hb, hml, hown, hts, hr, hlk, hK, hij, hA, hO, hfr, hlo, hcs, hss⟩ := C
  intro H locs arr hP hS hl
  obtain ⟨k1, k2, k3, k4, -⟩ := hk
  rw [cdMax] at k1
  exact va_mmax hx hb (by rw [hml, ← hls]; exact hl.1.symm) hown (hts _ k4) (hts _ k2) (hts _ k3) (hts _ k1) (by rw [hfr]; exact hf) (by rw [hlo]; omega) hcs hss hd (kk H locs arr hP hS hl)
theorem X_mabs (C : Cx k w cc own nL ret fr lo) {index : Nat} {x : Int32} (hk : kS own index yJ9_abs_0f7a4 cJ9_abs_0f7a4 1 (some .int) 1) (hf : 1 ≤ fr) (hq : 8 + 13 ≤ lo) (hc : (st.map fun v => v.category).sum ≤ 8) (hls : ls.length = nL) (hd : decode cc pc = .ok (.invokestatic index, 3)) (kk : X k w Z (pc + 3) ls (.int (abI x) :: st) h g) : X k w Z pc ls (.int x :: st) h g := by
  obtain ⟨p, l, e, R, s, m, args, below, meth, c, A, cells, slots⟩ := k
  obtain ⟨hx, hb, hml, hown, hts, hr, hlk, hK, hij, hA, hO, hfr, hlo, hcs, hss⟩ := C
  intro H locs arr hP hS hl
  obtain ⟨k1, k2, k3, k4, -⟩ := hk
  rw [cdAbs] at k1
  exact va_mabs hx hb (by rw [hml, ← hls]; exact hl.1.symm) hown (hts _ k4) (hts _ k2) (hts _ k3) (hts _ k1) (by rw [hfr]; exact hf) (by rw [hlo]; omega) hcs hss hd (kk H locs arr hP hS hl)
end XR2
/-- an int comes, nothing changes -/
def pI (h : xI) (g : xJ) : Option Value → xI → xJ → Prop := fun v h' g' => (∃ y : Int32, v = some (.int y)) ∧ h = h' ∧ g = g'
/-- an int comes, with P -/
def pP (P : Int32 → Prop) (h : xI) (g : xJ) : Option Value → xI → xJ → Prop := fun v h' g' => (∃ y : Int32, v = some (.int y) ∧ P y) ∧ h = h' ∧ g = g'
/-- an int, a long, nothing comes; the ints behind it have Q -/
def pQ (Q : xI → Prop) : Option Value → xI → xJ → Prop := fun v h' _ => (∃ y : Int32, v = some (.int y)) ∧ Q h'
def pQl (Q : xI → Prop) : Option Value → xI → xJ → Prop := fun v h' _ => (∃ y : Int64, v = some (.long y)) ∧ Q h'
def pQv (Q : xI → Prop) : Option Value → xI → xJ → Prop := fun v h' _ => v = none ∧ Q h'
set_option maxHeartbeats 4000000 in
set_option maxRecDepth 100000 in
theorem ct_J7_fill_53178 {l : Launch} {w : Kw} (hw : wOk w) {p n : Nat} (hp : p < wN w) (hs : wS w p = .inr (.inl (0, n))) (hn : n < 2147483648) (v : Int32) (h : xI) (g : xJ)  : Ct l w yJ7_fill_53178 cJ7_fill_53178 4 none 0 0 [.ref (wA w (p)), .int (v)] h g (px none (mp h p 0 n (fun _ => v)) g) := by
  refine Ct_of (ls := [some (.ref (wA w (p))), some (.int (v)), none, none]) (by decide) hw (Nat.le_of_ble_eq_true rfl) rfl (fun k hkl C => ?_)
  have C : Cx k w cJ7_fill_53178 RJ7 4 none 0 0 := C
  have D := dtJ7_fill_53178
  subst hkl
  refine X_iconst (v := nI (0)) C (D (0, .iconst 0, 1) (mg 0 rfl)) (by decide) ?_
  refine X_istore_n (ls' := [some (.ref (wA w (p))), some (.int (v)), some (.int (nI (0))), none]) C 2 (D (1, .istore_n 2, 1) (mg 1 rfl)) rfl (Nat.le_of_ble_eq_true rfl) rfl ?_
  refine X_aload_n C 0 (D (2, .aload_n 0, 1) (mg 2 rfl)) rfl rfl ?_
  refine X_alen (v := nI (n)) C (p) hp hs rfl (D (3, .arraylength, 1) (mg 3 rfl)) ?_
  refine X_istore_n (ls' := [some (.ref (wA w (p))), some (.int (v)), some (.int (nI (0))), some (.int (nI (n)))]) C 3 (D (4, .istore_n 3, 1) (mg 4 rfl)) rfl (Nat.le_of_ble_eq_true rfl) rfl ?_
  have lp5 : ∀ (nn5 : Nat) (j : Nat), (j ≤ n) → n + 1 - j ≤ nn5 → X k w (Zq k w (px none (mp h p 0 n (fun _ => v)) g)) 5 [some (.ref (wA w (p))), some (.int (v)), some (.int (nI (j))), some (.int (nI (n)))] [] (mp h p 0 (j) (fun _ => v)) g := by
    intro nn5
    induction nn5 with
    | zero => intro j hc5_0 hz; exact absurd hz (by omega)
    | succ nn5 ih5 =>
      intro j hc5_0 hz5
      refine X_iload_n C 2 (D (5, .iload_n 2, 1) (mg 5 rfl)) rfl rfl ?_
      refine X_iload_n C 3 (D (6, .iload_n 3, 1) (mg 6 rfl)) rfl rfl ?_
      refine X_icmp_ge (tgt := 20) C (D (7, .if_icmp .ge 13, 3) (mg 7 rfl)) (by decide) (fun q1 => ?_) (fun q1 => ?_)
      · skip
        have q1 : (j) ≥ (n) := by have z := (nI_leI (a := (n)) (b := (j)) (by omega) (by omega)).mp q1; omega
        exact X_vret C (D (20, .return_, 1) (mg 14 rfl)) ⟨rfl, by rw [show j = n by omega], rfl⟩
      · skip
        have q1 : (j) < (n) := by have z : ¬ ((n) ≤ (j)) := fun u => q1 ((nI_leI (a := (n)) (b := (j)) (by omega) (by omega)).mpr u); omega
        refine X_aload_n C 0 (D (10, .aload_n 0, 1) (mg 8 rfl)) rfl rfl ?_
        refine X_iload_n C 2 (D (11, .iload_n 2, 1) (mg 9 rfl)) rfl rfl ?_
        refine X_iload_n C 1 (D (12, .iload_n 1, 1) (mg 10 rfl)) rfl rfl ?_
        refine X_iast (j := j) C (p) hp hs (vp_in_nI (by omega) (by omega)) (D (13, .iastore, 1) (mg 11 rfl)) (nI_clamp (by omega)) ?_
        refine X_iinc (v := nI (j + 1)) (ls' := [some (.ref (wA w (p))), some (.int (v)), some (.int (nI (j + 1))), some (.int (nI (n)))]) C (D (14, .iinc 2 1, 3) (mg 12 rfl)) rfl (nI_add (j) 1) rfl ?_
        refine X_goto (tgt := 5) C (D (17, .goto (-12), 3) (mg 13 rfl)) (by decide) ?_
        refine X_eq (ls' := [some (.ref (wA w (p))), some (.int (v)), some (.int (nI (j + 1))), some (.int (nI (n)))]) (st' := []) (h' := (mp h p 0 (j + 1) (fun _ => v))) (g' := g) rfl rfl (by have z := mp_s h p 0 (j) (fun _ => v) (v := v) rfl; rw [Nat.zero_add] at z; exact z) rfl ?_
        exact ih5 (j + 1) (by omega) (by omega)
  refine X_eq (ls' := [some (.ref (wA w (p))), some (.int (v)), some (.int (nI (0))), some (.int (nI (n)))]) (st' := []) (h' := (mp h p 0 (0) (fun _ => v))) (g' := g) rfl rfl (mp_0 h p 0 (fun _ => v)).symm rfl ?_
  exact lp5 _ (0) (by omega) (Nat.le_refl _)
set_option maxHeartbeats 4000000 in
set_option maxRecDepth 100000 in
theorem ct_J6_bitCount_0f7a4 {l : Launch} {w : Kw} (hw : wOk w) (a : Int32) (h : xI) (g : xJ)  : Ct l w yJ6_bitCount_0f7a4 cJ6_bitCount_0f7a4 1 (some .int) 0 0 [.int (a)] h g (pI h g) := by
  refine Ct_of (ls := [some (.int (a))]) (by decide) hw (Nat.le_of_ble_eq_true rfl) rfl (fun k hkl C => ?_)
  have C : Cx k w cJ6_bitCount_0f7a4 RJ6 1 (some .int) 0 0 := C
  have D := dtJ6_bitCount_0f7a4
  subst hkl
  refine X_iload_n C 0 (D (0, .iload_n 0, 1) (mg 0 rfl)) rfl rfl ?_
  refine X_iload_n C 0 (D (1, .iload_n 0, 1) (mg 1 rfl)) rfl rfl ?_
  refine X_iconst (v := nI (1)) C (D (2, .iconst 1, 1) (mg 2 rfl)) (by decide) ?_
  refine X_iushr C (D (3, .iushr, 1) (mg 3 rfl)) ?_
  refine X_ldcw C (D (4, .ldc_w 265, 3) (mg 4 rfl)) vJ6_265 ?_
  refine X_iand C (D (7, .iand, 1) (mg 5 rfl)) ?_
  refine X_isub C (D (8, .isub, 1) (mg 6 rfl)) ?_
  refine X_istore_n (ls' := [some (.int (a - (((a.toUInt32 >>> ((nI (1)).toUInt32 &&& Int32.toUInt32 31)).toInt32) &&& ((1431655765 : Int32)))))]) C 0 (D (9, .istore_n 0, 1) (mg 7 rfl)) rfl (Nat.le_of_ble_eq_true rfl) rfl ?_
  refine X_iload_n C 0 (D (10, .iload_n 0, 1) (mg 8 rfl)) rfl rfl ?_
  refine X_ldcw C (D (11, .ldc_w 266, 3) (mg 9 rfl)) vJ6_266 ?_
  refine X_iand C (D (14, .iand, 1) (mg 10 rfl)) ?_
  refine X_iload_n C 0 (D (15, .iload_n 0, 1) (mg 11 rfl)) rfl rfl ?_
  refine X_iconst (v := nI (2)) C (D (16, .iconst 2, 1) (mg 12 rfl)) (by decide) ?_
  refine X_iushr C (D (17, .iushr, 1) (mg 13 rfl)) ?_
  refine X_ldcw C (D (18, .ldc_w 266, 3) (mg 14 rfl)) vJ6_266 ?_
  refine X_iand C (D (21, .iand, 1) (mg 15 rfl)) ?_
  refine X_iadd C (D (22, .iadd, 1) (mg 16 rfl)) ?_
  refine X_istore_n (ls' := [some (.int (((a - (((a.toUInt32 >>> ((nI (1)).toUInt32 &&& Int32.toUInt32 31)).toInt32) &&& ((1431655765 : Int32)))) &&& ((858993459 : Int32))) + ((((a - (((a.toUInt32 >>> ((nI (1)).toUInt32 &&& Int32.toUInt32 31)).toInt32) &&& ((1431655765 : Int32)))).toUInt32 >>> ((nI (2)).toUInt32 &&& Int32.toUInt32 31)).toInt32) &&& ((858993459 : Int32)))))]) C 0 (D (23, .istore_n 0, 1) (mg 17 rfl)) rfl (Nat.le_of_ble_eq_true rfl) rfl ?_
  refine X_iload_n C 0 (D (24, .iload_n 0, 1) (mg 18 rfl)) rfl rfl ?_
  refine X_iload_n C 0 (D (25, .iload_n 0, 1) (mg 19 rfl)) rfl rfl ?_
  refine X_iconst (v := nI (4)) C (D (26, .iconst 4, 1) (mg 20 rfl)) (by decide) ?_
  refine X_iushr C (D (27, .iushr, 1) (mg 21 rfl)) ?_
  refine X_iadd C (D (28, .iadd, 1) (mg 22 rfl)) ?_
  refine X_ldcw C (D (29, .ldc_w 267, 3) (mg 23 rfl)) vJ6_267 ?_
  refine X_iand C (D (32, .iand, 1) (mg 24 rfl)) ?_
  refine X_istore_n (ls' := [some (.int (((((a - (((a.toUInt32 >>> ((nI (1)).toUInt32 &&& Int32.toUInt32 31)).toInt32) &&& ((1431655765 : Int32)))) &&& ((858993459 : Int32))) + ((((a - (((a.toUInt32 >>> ((nI (1)).toUInt32 &&& Int32.toUInt32 31)).toInt32) &&& ((1431655765 : Int32)))).toUInt32 >>> ((nI (2)).toUInt32 &&& Int32.toUInt32 31)).toInt32) &&& ((858993459 : Int32)))) + (((((a - (((a.toUInt32 >>> ((nI (1)).toUInt32 &&& Int32.toUInt32 31)).toInt32) &&& ((1431655765 : Int32)))) &&& ((858993459 : Int32))) + ((((a - (((a.toUInt32 >>> ((nI (1)).toUInt32 &&& Int32.toUInt32 31)).toInt32) &&& ((1431655765 : Int32)))).toUInt32 >>> ((nI (2)).toUInt32 &&& Int32.toUInt32 31)).toInt32) &&& ((858993459 : Int32)))).toUInt32 >>> ((nI (4)).toUInt32 &&& Int32.toUInt32 31)).toInt32)) &&& ((252645135 : Int32))))]) C 0 (D (33, .istore_n 0, 1) (mg 25 rfl)) rfl (Nat.le_of_ble_eq_true rfl) rfl ?_
  refine X_iload_n C 0 (D (34, .iload_n 0, 1) (mg 26 rfl)) rfl rfl ?_
  refine X_iload_n C 0 (D (35, .iload_n 0, 1) (mg 27 rfl)) rfl rfl ?_
  refine X_bipush (v := nI (8)) C (D (36, .bipush 8, 2) (mg 28 rfl)) (by decide) ?_
  refine X_iushr C (D (38, .iushr, 1) (mg 29 rfl)) ?_
  refine X_iadd C (D (39, .iadd, 1) (mg 30 rfl)) ?_
  refine X_istore_n (ls' := [some (.int ((((((a - (((a.toUInt32 >>> ((nI (1)).toUInt32 &&& Int32.toUInt32 31)).toInt32) &&& ((1431655765 : Int32)))) &&& ((858993459 : Int32))) + ((((a - (((a.toUInt32 >>> ((nI (1)).toUInt32 &&& Int32.toUInt32 31)).toInt32) &&& ((1431655765 : Int32)))).toUInt32 >>> ((nI (2)).toUInt32 &&& Int32.toUInt32 31)).toInt32) &&& ((858993459 : Int32)))) + (((((a - (((a.toUInt32 >>> ((nI (1)).toUInt32 &&& Int32.toUInt32 31)).toInt32) &&& ((1431655765 : Int32)))) &&& ((858993459 : Int32))) + ((((a - (((a.toUInt32 >>> ((nI (1)).toUInt32 &&& Int32.toUInt32 31)).toInt32) &&& ((1431655765 : Int32)))).toUInt32 >>> ((nI (2)).toUInt32 &&& Int32.toUInt32 31)).toInt32) &&& ((858993459 : Int32)))).toUInt32 >>> ((nI (4)).toUInt32 &&& Int32.toUInt32 31)).toInt32)) &&& ((252645135 : Int32))) + (((((((a - (((a.toUInt32 >>> ((nI (1)).toUInt32 &&& Int32.toUInt32 31)).toInt32) &&& ((1431655765 : Int32)))) &&& ((858993459 : Int32))) + ((((a - (((a.toUInt32 >>> ((nI (1)).toUInt32 &&& Int32.toUInt32 31)).toInt32) &&& ((1431655765 : Int32)))).toUInt32 >>> ((nI (2)).toUInt32 &&& Int32.toUInt32 31)).toInt32) &&& ((858993459 : Int32)))) + (((((a - (((a.toUInt32 >>> ((nI (1)).toUInt32 &&& Int32.toUInt32 31)).toInt32) &&& ((1431655765 : Int32)))) &&& ((858993459 : Int32))) + ((((a - (((a.toUInt32 >>> ((nI (1)).toUInt32 &&& Int32.toUInt32 31)).toInt32) &&& ((1431655765 : Int32)))).toUInt32 >>> ((nI (2)).toUInt32 &&& Int32.toUInt32 31)).toInt32) &&& ((858993459 : Int32)))).toUInt32 >>> ((nI (4)).toUInt32 &&& Int32.toUInt32 31)).toInt32)) &&& ((252645135 : Int32))).toUInt32 >>> ((nI (8)).toUInt32 &&& Int32.toUInt32 31)).toInt32)))]) C 0 (D (40, .istore_n 0, 1) (mg 31 rfl)) rfl (Nat.le_of_ble_eq_true rfl) rfl ?_
  refine X_iload_n C 0 (D (41, .iload_n 0, 1) (mg 32 rfl)) rfl rfl ?_
  refine X_iload_n C 0 (D (42, .iload_n 0, 1) (mg 33 rfl)) rfl rfl ?_
  refine X_bipush (v := nI (16)) C (D (43, .bipush 16, 2) (mg 34 rfl)) (by decide) ?_
  refine X_iushr C (D (45, .iushr, 1) (mg 35 rfl)) ?_
  refine X_iadd C (D (46, .iadd, 1) (mg 36 rfl)) ?_
  refine X_istore_n (ls' := [some (.int (((((((a - (((a.toUInt32 >>> ((nI (1)).toUInt32 &&& Int32.toUInt32 31)).toInt32) &&& ((1431655765 : Int32)))) &&& ((858993459 : Int32))) + ((((a - (((a.toUInt32 >>> ((nI (1)).toUInt32 &&& Int32.toUInt32 31)).toInt32) &&& ((1431655765 : Int32)))).toUInt32 >>> ((nI (2)).toUInt32 &&& Int32.toUInt32 31)).toInt32) &&& ((858993459 : Int32)))) + (((((a - (((a.toUInt32 >>> ((nI (1)).toUInt32 &&& Int32.toUInt32 31)).toInt32) &&& ((1431655765 : Int32)))) &&& ((858993459 : Int32))) + ((((a - (((a.toUInt32 >>> ((nI (1)).toUInt32 &&& Int32.toUInt32 31)).toInt32) &&& ((1431655765 : Int32)))).toUInt32 >>> ((nI (2)).toUInt32 &&& Int32.toUInt32 31)).toInt32) &&& ((858993459 : Int32)))).toUInt32 >>> ((nI (4)).toUInt32 &&& Int32.toUInt32 31)).toInt32)) &&& ((252645135 : Int32))) + (((((((a - (((a.toUInt32 >>> ((nI (1)).toUInt32 &&& Int32.toUInt32 31)).toInt32) &&& ((1431655765 : Int32)))) &&& ((858993459 : Int32))) + ((((a - (((a.toUInt32 >>> ((nI (1)).toUInt32 &&& Int32.toUInt32 31)).toInt32) &&& ((1431655765 : Int32)))).toUInt32 >>> ((nI (2)).toUInt32 &&& Int32.toUInt32 31)).toInt32) &&& ((858993459 : Int32)))) + (((((a - (((a.toUInt32 >>> ((nI (1)).toUInt32 &&& Int32.toUInt32 31)).toInt32) &&& ((1431655765 : Int32)))) &&& ((858993459 : Int32))) + ((((a - (((a.toUInt32 >>> ((nI (1)).toUInt32 &&& Int32.toUInt32 31)).toInt32) &&& ((1431655765 : Int32)))).toUInt32 >>> ((nI (2)).toUInt32 &&& Int32.toUInt32 31)).toInt32) &&& ((858993459 : Int32)))).toUInt32 >>> ((nI (4)).toUInt32 &&& Int32.toUInt32 31)).toInt32)) &&& ((252645135 : Int32))).toUInt32 >>> ((nI (8)).toUInt32 &&& Int32.toUInt32 31)).toInt32)) + ((((((((a - (((a.toUInt32 >>> ((nI (1)).toUInt32 &&& Int32.toUInt32 31)).toInt32) &&& ((1431655765 : Int32)))) &&& ((858993459 : Int32))) + ((((a - (((a.toUInt32 >>> ((nI (1)).toUInt32 &&& Int32.toUInt32 31)).toInt32) &&& ((1431655765 : Int32)))).toUInt32 >>> ((nI (2)).toUInt32 &&& Int32.toUInt32 31)).toInt32) &&& ((858993459 : Int32)))) + (((((a - (((a.toUInt32 >>> ((nI (1)).toUInt32 &&& Int32.toUInt32 31)).toInt32) &&& ((1431655765 : Int32)))) &&& ((858993459 : Int32))) + ((((a - (((a.toUInt32 >>> ((nI (1)).toUInt32 &&& Int32.toUInt32 31)).toInt32) &&& ((1431655765 : Int32)))).toUInt32 >>> ((nI (2)).toUInt32 &&& Int32.toUInt32 31)).toInt32) &&& ((858993459 : Int32)))).toUInt32 >>> ((nI (4)).toUInt32 &&& Int32.toUInt32 31)).toInt32)) &&& ((252645135 : Int32))) + (((((((a - (((a.toUInt32 >>> ((nI (1)).toUInt32 &&& Int32.toUInt32 31)).toInt32) &&& ((1431655765 : Int32)))) &&& ((858993459 : Int32))) + ((((a - (((a.toUInt32 >>> ((nI (1)).toUInt32 &&& Int32.toUInt32 31)).toInt32) &&& ((1431655765 : Int32)))).toUInt32 >>> ((nI (2)).toUInt32 &&& Int32.toUInt32 31)).toInt32) &&& ((858993459 : Int32)))) + (((((a - (((a.toUInt32 >>> ((nI (1)).toUInt32 &&& Int32.toUInt32 31)).toInt32) &&& ((1431655765 : Int32)))) &&& ((858993459 : Int32))) + ((((a - (((a.toUInt32 >>> ((nI (1)).toUInt32 &&& Int32.toUInt32 31)).toInt32) &&& ((1431655765 : Int32)))).toUInt32 >>> ((nI (2)).toUInt32 &&& Int32.toUInt32 31)).toInt32) &&& ((858993459 : Int32)))).toUInt32 >>> ((nI (4)).toUInt32 &&& Int32.toUInt32 31)).toInt32)) &&& ((252645135 : Int32))).toUInt32 >>> ((nI (8)).toUInt32 &&& Int32.toUInt32 31)).toInt32)).toUInt32 >>> ((nI (16)).toUInt32 &&& Int32.toUInt32 31)).toInt32)))]) C 0 (D (47, .istore_n 0, 1) (mg 37 rfl)) rfl (Nat.le_of_ble_eq_true rfl) rfl ?_
  refine X_iload_n C 0 (D (48, .iload_n 0, 1) (mg 38 rfl)) rfl rfl ?_
  refine X_bipush (v := nI (63)) C (D (49, .bipush 63, 2) (mg 39 rfl)) (by decide) ?_
  refine X_iand C (D (51, .iand, 1) (mg 40 rfl)) ?_
  exact X_iret C (D (52, .ireturn, 1) (mg 41 rfl)) ⟨⟨_, rfl⟩, rfl, rfl⟩
