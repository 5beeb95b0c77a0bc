/-! PHASE 2, BOTH SIDES: mostAlike, tell, ask, exact -/
def pL (a : Int32) (p : Nat) (h : xI) : Option Value → xI → xJ → Prop := fun v h' _ => v = some (.int a) ∧ ∀ q i, q ≠ p → h' q i = h q i
abbrev bt (S : Int32) (k : Nat) : Prop := (S >>> (nI k &&& 31)) &&& nI 1 = nI 1
def lkN (S : Int32) (V : Nat → Int32) (a n : Nat) : Nat := cn (fun b => bt S b ∧ V b = V a) n
def mAl (S : Int32) (V : Nat → Int32) : Nat → Nat
  | 0 => 0
  | n + 1 => if bt S n then (if mAl S V n < lkN S V n 6 then lkN S V n 6 else mAl S V n) else mAl S V n
theorem lkN_le (S : Int32) (V : Nat → Int32) (a n : Nat) : lkN S V a n ≤ n := cn_le _ n
theorem mAl_le (S : Int32) (V : Nat → Int32) : ∀ n, mAl S V n ≤ 6
  | 0 => by show 0 ≤ 6; omega
  | n + 1 => by
    have a := mAl_le S V n
    have b := lkN_le S V n 6
    show (if bt S n then (if mAl S V n < lkN S V n 6 then lkN S V n 6 else mAl S V n) else mAl S V n) ≤ 6
    split
    · split <;> omega
    · exact a
theorem mAl_t {S : Int32} {V : Nat → Int32} {n : Nat} (h : bt S n) : mxI (nI (mAl S V n)) (nI (lkN S V n 6)) = nI (mAl S V (n + 1)) := by
  have a := mAl_le S V n
  have b := lkN_le S V n 6
  show _ = nI (if bt S n then (if mAl S V n < lkN S V n 6 then lkN S V n 6 else mAl S V n) else mAl S V n)
  rw [if_pos h]
  unfold mxI
  by_cases q : mAl S V n < lkN S V n 6
  · rw [if_pos q, if_pos ((nI_ltI (by omega) (by omega)).mpr q)]
  · rw [if_neg q, if_neg (fun z => q ((nI_ltI (by omega) (by omega)).mp z))]
theorem mAl_f {S : Int32} {V : Nat → Int32} {n : Nat} (h : ¬ bt S n) : mAl S V n = mAl S V (n + 1) := (if_neg h).symm
theorem mAl_1 {S : Int32} {V : Nat → Int32} {n : Nat} (h : bt S n) (q : mAl S V n < lkN S V n 6) : lkN S V n 6 = mAl S V (n + 1) := ((if_pos h).trans (if_pos q)).symm
theorem mAl_2 {S : Int32} {V : Nat → Int32} {n : Nat} (h : bt S n) (q : ¬ mAl S V n < lkN S V n 6) : mAl S V n = mAl S V (n + 1) := ((if_pos h).trans (if_neg q)).symm
theorem cn_c {P Q : Nat → Prop} [DecidablePred P] [DecidablePred Q] : ∀ (n : Nat), (∀ k, k < n → (P k ↔ Q k)) → cn P n = cn Q n
  | 0, _ => rfl
  | n + 1, H => by
    show cn P n + _ = cn Q n + _
    rw [cn_c n (fun k hk => H k (by omega))]
    by_cases q : P n
    · rw [if_pos q, if_pos ((H n (by omega)).mp q)]
    · rw [if_neg q, if_neg (fun z => q ((H n (by omega)).mpr z))]
theorem mAl_c {S : Int32} {V W : Nat → Int32} (H : ∀ k, k < 6 → V k = W k) : ∀ n, n ≤ 6 → mAl S V n = mAl S W n
  | 0, _ => rfl
  | n + 1, hn => by
    have a := mAl_c (S := S) H n (by omega)
    have b : lkN S V n 6 = lkN S W n 6 := cn_c 6 (fun k hk => by rw [H k hk, H n (by omega)])
    show (if bt S n then (if mAl S V n < lkN S V n 6 then lkN S V n 6 else mAl S V n) else mAl S V n) = (if bt S n then (if mAl S W n < lkN S W n 6 then lkN S W n 6 else mAl S W n) else mAl S W n)
    rw [a, b]
theorem cn_n {p : Nat → Prop} [DecidablePred p] {n : Nat} (h : ¬ p n) : cn p n = cn p (n + 1) := by have z := cn_f h; rw [Nat.add_zero] at z; exact z
/-- the least so far, and where -/
def foF (T : Nat → Nat) (f0 : Nat) : Nat → Nat
  | 0 => f0
  | n + 1 => if T n < foF T f0 n then T n else foF T f0 n
def foB (T C : Nat → Nat) (f0 : Nat) : Nat → Int32
  | 0 => (-1 : Int32)
  | n + 1 => if T n < foF T f0 n then nI (C n) else foB T C f0 n
theorem foF_t {T : Nat → Nat} {f0 n : Nat} (h : T n < foF T f0 n) : T n = foF T f0 (n + 1) := (if_pos h).symm
theorem foF_f {T : Nat → Nat} {f0 n : Nat} (h : ¬ T n < foF T f0 n) : foF T f0 n = foF T f0 (n + 1) := (if_neg h).symm
theorem foB_t {T C : Nat → Nat} {f0 n : Nat} (h : T n < foF T f0 n) : nI (C n) = foB T C f0 (n + 1) := (if_pos h).symm
theorem foB_f {T C : Nat → Nat} {f0 n : Nat} (h : ¬ T n < foF T f0 n) : foB T C f0 n = foB T C f0 (n + 1) := (if_neg h).symm
theorem foF_le {T : Nat → Nat} {f0 : Nat} : ∀ n, foF T f0 n ≤ f0
  | 0 => Nat.le_refl _
  | n + 1 => by
    have := foF_le (T := T) (f0 := f0) n
    show (if T n < foF T f0 n then T n else foF T f0 n) ≤ f0
    split <;> omega
theorem fo_eq {T C : Nat → Nat} {f0 f1 : Nat} (h0 : T 0 < f0) (h1 : T 0 < f1) : ∀ n, foF T f0 (n + 1) = foF T f1 (n + 1) ∧ foB T C f0 (n + 1) = foB T C f1 (n + 1)
  | 0 => ⟨(foF_t h0).symm.trans (foF_t h1), (foB_t h0).symm.trans (foB_t h1)⟩
  | n + 1 => by
    obtain ⟨a, b⟩ := fo_eq (C := C) h0 h1 n
    by_cases q : T (n + 1) < foF T f0 (n + 1)
    · exact ⟨(foF_t q).symm.trans (foF_t (a ▸ q)), (foB_t q).symm.trans (foB_t (a ▸ q))⟩
    · exact ⟨(foF_f q).symm.trans (a.trans (foF_f (a ▸ q))), (foB_f q).symm.trans (b.trans (foB_f (a ▸ q)))⟩
theorem fo_T {T U : Nat → Nat} {C : Nat → Nat} {f0 : Nat} : ∀ n, (∀ k, k < n → T k = U k) → foF T f0 n = foF U f0 n ∧ foB T C f0 n = foB U C f0 n
  | 0, _ => ⟨rfl, rfl⟩
  | n + 1, H => by
    obtain ⟨a, b⟩ := fo_T (C := C) (f0 := f0) n (fun k hk => H k (by omega))
    have e := H n (by omega)
    refine ⟨?_, ?_⟩
    · show (if T n < foF T f0 n then T n else foF T f0 n) = (if U n < foF U f0 n then U n else foF U f0 n)
      rw [a, e]
    · show (if T n < foF T f0 n then nI (C n) else foB T C f0 n) = (if U n < foF U f0 n then nI (C n) else foB U C f0 n)
      rw [a, b, e]
set_option maxHeartbeats 4000000 in
set_option maxRecDepth 100000 in
theorem cx_X7_mostAlike {l : Launch} {w : Kw} (hw : wOk w) {x : Nat} (hC : shC w x) (a1 : Int32) (h : xI) (g : xJ)  : Ct l w yX7_mostAlike cX7_mostAlike 6 (some .int) 1 21 [.ref (wA w (x)), .int (a1)] h g (px (some (.int (nI (mAl a1 (h (x + 38)) 6)))) h g) := by
  refine Ct_of (ls := [some (.ref (wA w (x))), some (.int (a1)), none, none, none, none]) (by decide) hw (Nat.le_of_ble_eq_true rfl) rfl (fun k hkl C => ?_)
  have C : Cx k w cX7_mostAlike RX7 6 (some .int) 1 21 := C
  have D := dtX7_mostAlike
  subst hkl
  have hC0 := hC
  obtain ⟨hxn, hsx, hT, hsi, hTa, hTb, hsk, hNs, hY, hX, hsv⟩ := hC
  have hY2 := hY.1
  have hX2 := hX.1
  refine X_iconst (v := nI (0)) C (D (0, .iconst 0, 1) (mg 0 rfl)) (by decide) ?_
  refine X_istore_n (ls' := [some (.ref (wA w (x))), some (.int (a1)), some (.int (nI (0))), none, none, none]) C 2 (D (1, .istore_n 2, 1) (mg 1 rfl)) rfl (Nat.le_of_ble_eq_true rfl) rfl ?_
  refine X_iconst (v := nI (0)) C (D (2, .iconst 0, 1) (mg 2 rfl)) (by decide) ?_
  refine X_istore_n (ls' := [some (.ref (wA w (x))), some (.int (a1)), some (.int (nI (0))), some (.int (nI (0))), none, none]) C 3 (D (3, .istore_n 3, 1) (mg 3 rfl)) rfl (Nat.le_of_ble_eq_true rfl) rfl ?_
  have lp4 : ∀ (nn4 : Nat) (j : Nat), (j ≤ 6) → 7 - j ≤ nn4 → X k w (Zq k w (px (some (.int (nI (mAl a1 (h (x + 38)) 6)))) h g)) 4 [some (.ref (wA w (x))), some (.int (a1)), some (.int (nI (mAl a1 (h (x + 38)) (j)))), some (.int (nI (j))), none, none] [] h g := by
    intro nn4
    induction nn4 with
    | zero => intro j hc4_0 hz; exact absurd hz (by omega)
    | succ nn4 ih4 =>
      intro j hc4_0 hz4
      refine X_iload_n C 3 (D (4, .iload_n 3, 1) (mg 4 rfl)) rfl rfl ?_
      refine X_bipush (v := nI (6)) C (D (5, .bipush 6, 2) (mg 5 rfl)) (by decide) ?_
      refine X_icmp_ge (tgt := 80) C (D (7, .if_icmp .ge 73, 3) (mg 6 rfl)) (by decide) (fun q1 => ?_) (fun q1 => ?_)
      · skip
        have q1 : (j) ≥ (6) := by have z := (nI_leI (a := (6)) (b := (j)) (by omega) (by omega)).mp q1; omega
        refine X_iload_n C 2 (D (80, .iload_n 2, 1) (mg 46 rfl)) rfl rfl ?_
        exact X_iret C (D (81, .ireturn, 1) (mg 47 rfl)) ⟨by rw [show j = 6 by omega], rfl, rfl⟩
      · skip
        have q1 : (j) < (6) := by have z : ¬ ((6) ≤ (j)) := fun u => q1 ((nI_leI (a := (6)) (b := (j)) (by omega) (by omega)).mpr u); omega
        refine X_iconst (v := nI (0)) C (D (10, .iconst 0, 1) (mg 7 rfl)) (by decide) ?_
        refine X_istore (ls' := [some (.ref (wA w (x))), some (.int (a1)), some (.int (nI (mAl a1 (h (x + 38)) (j)))), some (.int (nI (j))), some (.int (nI (0))), none]) C (D (11, .istore 4, 2) (mg 8 rfl)) (Nat.le_of_ble_eq_true rfl) rfl ?_
        refine X_iconst (v := nI (0)) C (D (13, .iconst 0, 1) (mg 9 rfl)) (by decide) ?_
        refine X_istore (ls' := [some (.ref (wA w (x))), some (.int (a1)), some (.int (nI (mAl a1 (h (x + 38)) (j)))), some (.int (nI (j))), some (.int (nI (0))), some (.int (nI (0)))]) C (D (14, .istore 5, 2) (mg 10 rfl)) (Nat.le_of_ble_eq_true rfl) rfl ?_
        have lp16 : ∀ (nn16 : Nat) (i5 : Nat), (i5 ≤ 6) → 7 - i5 ≤ nn16 → X k w (Zq k w (px (some (.int (nI (mAl a1 (h (x + 38)) 6)))) h g)) 16 [some (.ref (wA w (x))), some (.int (a1)), some (.int (nI (mAl a1 (h (x + 38)) j))), some (.int (nI (j))), some (.int (nI (lkN a1 (h (x + 38)) j (i5)))), some (.int (nI (i5)))] [] h g := by
          intro nn16
          induction nn16 with
          | zero => intro i5 hc16_0 hz; exact absurd hz (by omega)
          | succ nn16 ih16 =>
            intro i5 hc16_0 hz16
            refine X_iload C (D (16, .iload 5, 2) (mg 11 rfl)) rfl ?_
            refine X_bipush (v := nI (6)) C (D (18, .bipush 6, 2) (mg 12 rfl)) (by decide) ?_
            refine X_icmp_ge (tgt := 58) C (D (20, .if_icmp .ge 38, 3) (mg 13 rfl)) (by decide) (fun q2 => ?_) (fun q2 => ?_)
            · skip
              have q2 : (i5) ≥ (6) := by have z := (nI_leI (a := (6)) (b := (i5)) (by omega) (by omega)).mp q2; omega
              have hi5 : i5 = 6 := by omega
              subst hi5
              refine X_iload_n C 1 (D (58, .iload_n 1, 1) (mg 33 rfl)) rfl rfl ?_
              refine X_iload_n C 3 (D (59, .iload_n 3, 1) (mg 34 rfl)) rfl rfl ?_
              refine X_ishr C (D (60, .ishr, 1) (mg 35 rfl)) ?_
              refine X_iconst (v := nI (1)) C (D (61, .iconst 1, 1) (mg 36 rfl)) (by decide) ?_
              refine X_iand C (D (62, .iand, 1) (mg 37 rfl)) ?_
              refine X_iconst (v := nI (1)) C (D (63, .iconst 1, 1) (mg 38 rfl)) (by decide) ?_
              refine X_icmp_ne (tgt := 74) C (D (64, .if_icmp .ne 10, 3) (mg 39 rfl)) (by decide) (fun q3 => ?_) (fun q3 => ?_)
              · skip
                refine X_iinc (v := nI (j + 1)) (ls' := [some (.ref (wA w (x))), some (.int (a1)), some (.int (nI (mAl a1 (h (x + 38)) j))), some (.int (nI (j + 1))), some (.int (nI (lkN a1 (h (x + 38)) j (6)))), some (.int (nI (6)))]) C (D (74, .iinc 3 1, 3) (mg 44 rfl)) rfl (nI_add (j) 1) rfl ?_
                refine X_goto (tgt := 4) C (D (77, .goto (-73), 3) (mg 45 rfl)) (by decide) ?_
                refine X_los (ls' := [some (.ref (wA w (x))), some (.int (a1)), some (.int (nI (mAl a1 (h (x + 38)) j))), some (.int (nI (j + 1))), none, none]) (by simp [lsub]) ?_
                refine X_eq (ls' := [some (.ref (wA w (x))), some (.int (a1)), some (.int (nI (mAl a1 (h (x + 38)) (j + 1)))), some (.int (nI (j + 1))), none, none]) (st' := []) (h' := h) (g' := g) (by rw [show mAl a1 (h (x + 38)) j = mAl a1 (h (x + 38)) (j + 1) from mAl_f (by assumption)]) rfl rfl rfl ?_
                exact ih4 (j + 1) (by omega) (by omega)
              · skip
                refine X_iload_n C 2 (D (67, .iload_n 2, 1) (mg 40 rfl)) rfl rfl ?_
                refine X_iload C (D (68, .iload 4, 2) (mg 41 rfl)) rfl ?_
                refine X_mmax (st := []) C kX7_275 (by decide) (by decide) (Nat.le_of_ble_eq_true rfl) rfl (D (70, .invokestatic 275, 3) (mg 42 rfl)) ?_
                refine X_istore_n (ls' := [some (.ref (wA w (x))), some (.int (a1)), some (.int (mxI (nI (mAl a1 (h (x + 38)) j)) (nI (lkN a1 (h (x + 38)) j (6))))), some (.int (nI (j))), some (.int (nI (lkN a1 (h (x + 38)) j (6)))), some (.int (nI (6)))]) C 2 (D (73, .istore_n 2, 1) (mg 43 rfl)) rfl (Nat.le_of_ble_eq_true rfl) rfl ?_
                refine X_iinc (v := nI (j + 1)) (ls' := [some (.ref (wA w (x))), some (.int (a1)), some (.int (mxI (nI (mAl a1 (h (x + 38)) j)) (nI (lkN a1 (h (x + 38)) j (6))))), some (.int (nI (j + 1))), some (.int (nI (lkN a1 (h (x + 38)) j (6)))), some (.int (nI (6)))]) C (D (74, .iinc 3 1, 3) (mg 44 rfl)) rfl (nI_add (j) 1) rfl ?_
                refine X_goto (tgt := 4) C (D (77, .goto (-73), 3) (mg 45 rfl)) (by decide) ?_
                refine X_los (ls' := [some (.ref (wA w (x))), some (.int (a1)), some (.int (mxI (nI (mAl a1 (h (x + 38)) j)) (nI (lkN a1 (h (x + 38)) j (6))))), some (.int (nI (j + 1))), none, none]) (by simp [lsub]) ?_
                refine X_eq (ls' := [some (.ref (wA w (x))), some (.int (a1)), some (.int (nI (mAl a1 (h (x + 38)) (j + 1)))), some (.int (nI (j + 1))), none, none]) (st' := []) (h' := h) (g' := g) (by rw [show mxI (nI (mAl a1 (h (x + 38)) j)) (nI (lkN a1 (h (x + 38)) j (6))) = nI (mAl a1 (h (x + 38)) (j + 1)) from mAl_t (by assumption)]) rfl rfl rfl ?_
                exact ih4 (j + 1) (by omega) (by omega)
            · skip
              have q2 : (i5) < (6) := by have z : ¬ ((6) ≤ (i5)) := fun u => q2 ((nI_leI (a := (6)) (b := (i5)) (by omega) (by omega)).mpr u); omega
              refine X_iload_n C 1 (D (23, .iload_n 1, 1) (mg 14 rfl)) rfl rfl ?_
              refine X_iload C (D (24, .iload 5, 2) (mg 15 rfl)) rfl ?_
              refine X_ishr C (D (26, .ishr, 1) (mg 16 rfl)) ?_
              refine X_iconst (v := nI (1)) C (D (27, .iconst 1, 1) (mg 17 rfl)) (by decide) ?_
              refine X_iand C (D (28, .iand, 1) (mg 18 rfl)) ?_
              refine X_iconst (v := nI (1)) C (D (29, .iconst 1, 1) (mg 19 rfl)) (by decide) ?_
              refine X_icmp_ne (tgt := 52) C (D (30, .if_icmp .ne 22, 3) (mg 20 rfl)) (by decide) (fun q4 => ?_) (fun q4 => ?_)
              · skip
                refine X_iinc (v := nI (i5 + 1)) (ls' := [some (.ref (wA w (x))), some (.int (a1)), some (.int (nI (mAl a1 (h (x + 38)) j))), some (.int (nI (j))), some (.int (nI (lkN a1 (h (x + 38)) j (i5)))), some (.int (nI (i5 + 1)))]) C (D (52, .iinc 5 1, 3) (mg 31 rfl)) rfl (nI_add (i5) 1) rfl ?_
                refine X_goto (tgt := 16) C (D (55, .goto (-39), 3) (mg 32 rfl)) (by decide) ?_
                refine X_eq (ls' := [some (.ref (wA w (x))), some (.int (a1)), some (.int (nI (mAl a1 (h (x + 38)) j))), some (.int (nI (j))), some (.int (nI (lkN a1 (h (x + 38)) j (i5 + 1)))), some (.int (nI (i5 + 1)))]) (st' := []) (h' := h) (g' := g) (by first | rw [show lkN a1 (h (x + 38)) j (i5) = lkN a1 (h (x + 38)) j (i5 + 1) from cn_n (p := fun b => bt a1 b ∧ (h (x + 38)) b = (h (x + 38)) j) (fun u_ => absurd u_.1 (by assumption))] | rw [show lkN a1 (h (x + 38)) j (i5) = lkN a1 (h (x + 38)) j (i5 + 1) from cn_n (p := fun b => bt a1 b ∧ (h (x + 38)) b = (h (x + 38)) j) (fun u_ => absurd u_.2 (by assumption))]) rfl rfl rfl ?_
                exact ih16 (i5 + 1) (by omega) (by omega)
              · skip
                refine X_aload_n C 0 (D (33, .aload_n 0, 1) (mg 21 rfl)) rfl rfl ?_
                refine X_get (v := .ref (wA w (x + 38))) C (x) 6 (by omega) hsx rfl rfl (by decide) inX7 fX7_45 rfl (D (34, .getfield 45, 3) (mg 22 rfl)) rfl ?_
                refine X_iload C (D (37, .iload 5, 2) (mg 23 rfl)) rfl ?_
                refine X_iald (v := h (x + 38) (i5)) C (x + 38) (by omega) hsv (vp_in_nI (by omega) (by omega)) (D (39, .iaload, 1) (mg 24 rfl)) (by rw [nI_clamp (by omega)]) ?_
                refine X_aload_n C 0 (D (40, .aload_n 0, 1) (mg 25 rfl)) rfl rfl ?_
                refine X_get (v := .ref (wA w (x + 38))) C (x) 6 (by omega) hsx rfl rfl (by decide) inX7 fX7_45 rfl (D (41, .getfield 45, 3) (mg 26 rfl)) rfl ?_
                refine X_iload_n C 3 (D (44, .iload_n 3, 1) (mg 27 rfl)) rfl rfl ?_
                refine X_iald (v := h (x + 38) (j)) C (x + 38) (by omega) hsv (vp_in_nI (by omega) (by omega)) (D (45, .iaload, 1) (mg 28 rfl)) (by rw [nI_clamp (by omega)]) ?_
                refine X_icmp_ne (tgt := 52) C (D (46, .if_icmp .ne 6, 3) (mg 29 rfl)) (by decide) (fun q5 => ?_) (fun q5 => ?_)
                · skip
                  refine X_iinc (v := nI (i5 + 1)) (ls' := [some (.ref (wA w (x))), some (.int (a1)), some (.int (nI (mAl a1 (h (x + 38)) j))), some (.int (nI (j))), some (.int (nI (lkN a1 (h (x + 38)) j (i5)))), some (.int (nI (i5 + 1)))]) C (D (52, .iinc 5 1, 3) (mg 31 rfl)) rfl (nI_add (i5) 1) rfl ?_
                  refine X_goto (tgt := 16) C (D (55, .goto (-39), 3) (mg 32 rfl)) (by decide) ?_
                  refine X_eq (ls' := [some (.ref (wA w (x))), some (.int (a1)), some (.int (nI (mAl a1 (h (x + 38)) j))), some (.int (nI (j))), some (.int (nI (lkN a1 (h (x + 38)) j (i5 + 1)))), some (.int (nI (i5 + 1)))]) (st' := []) (h' := h) (g' := g) (by first | rw [show lkN a1 (h (x + 38)) j (i5) = lkN a1 (h (x + 38)) j (i5 + 1) from cn_n (p := fun b => bt a1 b ∧ (h (x + 38)) b = (h (x + 38)) j) (fun u_ => absurd u_.1 (by assumption))] | rw [show lkN a1 (h (x + 38)) j (i5) = lkN a1 (h (x + 38)) j (i5 + 1) from cn_n (p := fun b => bt a1 b ∧ (h (x + 38)) b = (h (x + 38)) j) (fun u_ => absurd u_.2 (by assumption))]) rfl rfl rfl ?_
                  exact ih16 (i5 + 1) (by omega) (by omega)
                · skip
                  refine X_iinc (v := nI (lkN a1 (h (x + 38)) j (i5) + 1)) (ls' := [some (.ref (wA w (x))), some (.int (a1)), some (.int (nI (mAl a1 (h (x + 38)) j))), some (.int (nI (j))), some (.int (nI (lkN a1 (h (x + 38)) j (i5) + 1))), some (.int (nI (i5)))]) C (D (49, .iinc 4 1, 3) (mg 30 rfl)) rfl (nI_add (lkN a1 (h (x + 38)) j (i5)) 1) rfl ?_
                  refine X_iinc (v := nI (i5 + 1)) (ls' := [some (.ref (wA w (x))), some (.int (a1)), some (.int (nI (mAl a1 (h (x + 38)) j))), some (.int (nI (j))), some (.int (nI (lkN a1 (h (x + 38)) j (i5) + 1))), some (.int (nI (i5 + 1)))]) C (D (52, .iinc 5 1, 3) (mg 31 rfl)) rfl (nI_add (i5) 1) rfl ?_
                  refine X_goto (tgt := 16) C (D (55, .goto (-39), 3) (mg 32 rfl)) (by decide) ?_
                  refine X_eq (ls' := [some (.ref (wA w (x))), some (.int (a1)), some (.int (nI (mAl a1 (h (x + 38)) j))), some (.int (nI (j))), some (.int (nI (lkN a1 (h (x + 38)) j (i5 + 1)))), some (.int (nI (i5 + 1)))]) (st' := []) (h' := h) (g' := g) (by rw [show lkN a1 (h (x + 38)) j i5 + 1 = lkN a1 (h (x + 38)) j (i5 + 1) from cn_t (p := fun b => bt a1 b ∧ (h (x + 38)) b = (h (x + 38)) j) ⟨by assumption, (by assumption)⟩]) rfl rfl rfl ?_
                  exact ih16 (i5 + 1) (by omega) (by omega)
        refine X_eq (ls' := [some (.ref (wA w (x))), some (.int (a1)), some (.int (nI (mAl a1 (h (x + 38)) j))), some (.int (nI (j))), some (.int (nI (lkN a1 (h (x + 38)) j (0)))), some (.int (nI (0)))]) (st' := []) (h' := h) (g' := g) rfl rfl rfl rfl ?_
        exact lp16 _ (0) (by omega) (Nat.le_refl _)
  refine X_eq (ls' := [some (.ref (wA w (x))), some (.int (a1)), some (.int (nI (mAl a1 (h (x + 38)) (0)))), some (.int (nI (0))), none, none]) (st' := []) (h' := h) (g' := g) rfl rfl rfl rfl ?_
  exact lp4 _ (0) (by omega) (Nat.le_refl _)
set_option maxHeartbeats 4000000 in
set_option maxRecDepth 100000 in
theorem cx_X8_mostAlike {l : Launch} {w : Kw} (hw : wOk w) {m : Nat} (hM : shM w m) (a1 : Int32) (h : xI) (g : xJ)  : Ct l w yX8_mostAlike cX8_mostAlike 6 (some .int) 1 21 [.ref (wA w (m)), .int (a1)] h g (px (some (.int (nI (mAl a1 (h (m + 8)) 6)))) h g) := by
  refine Ct_of (ls := [some (.ref (wA w (m))), some (.int (a1)), none, none, none, none]) (by decide) hw (Nat.le_of_ble_eq_true rfl) rfl (fun k hkl C => ?_)
  have C : Cx k w cX8_mostAlike RX8 6 (some .int) 1 21 := C
  have D := dtX8_mostAlike
  subst hkl
  have hM0 := hM
  obtain ⟨hm, hsm, hs1, hs2, hs3, hs4, hs5, hs6, hs7, hs8, hs9, hs10, hs11⟩ := hM
  have hM := hM0
  refine X_iconst (v := nI (0)) C (D (0, .iconst 0, 1) (mg 0 rfl)) (by decide) ?_
  refine X_istore_n (ls' := [some (.ref (wA w (m))), some (.int (a1)), some (.int (nI (0))), none, none, none]) C 2 (D (1, .istore_n 2, 1) (mg 1 rfl)) rfl (Nat.le_of_ble_eq_true rfl) rfl ?_
  refine X_iconst (v := nI (0)) C (D (2, .iconst 0, 1) (mg 2 rfl)) (by decide) ?_
  refine X_istore_n (ls' := [some (.ref (wA w (m))), some (.int (a1)), some (.int (nI (0))), some (.int (nI (0))), none, none]) C 3 (D (3, .istore_n 3, 1) (mg 3 rfl)) rfl (Nat.le_of_ble_eq_true rfl) rfl ?_
  have lp4 : ∀ (nn4 : Nat) (j : Nat), (j ≤ 6) → 7 - j ≤ nn4 → X k w (Zq k w (px (some (.int (nI (mAl a1 (h (m + 8)) 6)))) h g)) 4 [some (.ref (wA w (m))), some (.int (a1)), some (.int (nI (mAl a1 (h (m + 8)) (j)))), some (.int (nI (j))), none, none] [] h g := by
    intro nn4
    induction nn4 with
    | zero => intro j hc4_0 hz; exact absurd hz (by omega)
    | succ nn4 ih4 =>
      intro j hc4_0 hz4
      refine X_iload_n C 3 (D (4, .iload_n 3, 1) (mg 4 rfl)) rfl rfl ?_
      refine X_bipush (v := nI (6)) C (D (5, .bipush 6, 2) (mg 5 rfl)) (by decide) ?_
      refine X_icmp_ge (tgt := 91) C (D (7, .if_icmp .ge 84, 3) (mg 6 rfl)) (by decide) (fun q1 => ?_) (fun q1 => ?_)
      · skip
        have q1 : (j) ≥ (6) := by have z := (nI_leI (a := (6)) (b := (j)) (by omega) (by omega)).mp q1; omega
        refine X_iload_n C 2 (D (91, .iload_n 2, 1) (mg 48 rfl)) rfl rfl ?_
        exact X_iret C (D (92, .ireturn, 1) (mg 49 rfl)) ⟨by rw [show j = 6 by omega], rfl, rfl⟩
      · skip
        have q1 : (j) < (6) := by have z : ¬ ((6) ≤ (j)) := fun u => q1 ((nI_leI (a := (6)) (b := (j)) (by omega) (by omega)).mpr u); omega
        refine X_iconst (v := nI (0)) C (D (10, .iconst 0, 1) (mg 7 rfl)) (by decide) ?_
        refine X_istore (ls' := [some (.ref (wA w (m))), some (.int (a1)), some (.int (nI (mAl a1 (h (m + 8)) (j)))), some (.int (nI (j))), some (.int (nI (0))), none]) C (D (11, .istore 4, 2) (mg 8 rfl)) (Nat.le_of_ble_eq_true rfl) rfl ?_
        refine X_iconst (v := nI (0)) C (D (13, .iconst 0, 1) (mg 9 rfl)) (by decide) ?_
        refine X_istore (ls' := [some (.ref (wA w (m))), some (.int (a1)), some (.int (nI (mAl a1 (h (m + 8)) (j)))), some (.int (nI (j))), some (.int (nI (0))), some (.int (nI (0)))]) C (D (14, .istore 5, 2) (mg 10 rfl)) (Nat.le_of_ble_eq_true rfl) rfl ?_
        have lp16 : ∀ (nn16 : Nat) (i5 : Nat), (i5 ≤ 6) → (i5 = 0 ∨ bt a1 j) → 7 - i5 ≤ nn16 → X k w (Zq k w (px (some (.int (nI (mAl a1 (h (m + 8)) 6)))) h g)) 16 [some (.ref (wA w (m))), some (.int (a1)), some (.int (nI (mAl a1 (h (m + 8)) j))), some (.int (nI (j))), some (.int (nI (lkN a1 (h (m + 8)) j (i5)))), some (.int (nI (i5)))] [] h g := by
          intro nn16
          induction nn16 with
          | zero => intro i5 hc16_0 hc16_1 hz; exact absurd hz (by omega)
          | succ nn16 ih16 =>
            intro i5 hc16_0 hc16_1 hz16
            refine X_iload C (D (16, .iload 5, 2) (mg 11 rfl)) rfl ?_
            refine X_bipush (v := nI (6)) C (D (18, .bipush 6, 2) (mg 12 rfl)) (by decide) ?_
            refine X_icmp_ge (tgt := 72) C (D (20, .if_icmp .ge 52, 3) (mg 13 rfl)) (by decide) (fun q2 => ?_) (fun q2 => ?_)
            · skip
              have q2 : (i5) ≥ (6) := by have z := (nI_leI (a := (6)) (b := (i5)) (by omega) (by omega)).mp q2; omega
              have hi5 : i5 = 6 := by omega
              have hbt_ : bt a1 j := hc16_1.resolve_left (by omega)
              subst hi5
              have hb1_ := lkN_le a1 (h (m + 8)) j 6
              have hb2_ := mAl_le a1 (h (m + 8)) j
              refine X_iload C (D (72, .iload 4, 2) (mg 39 rfl)) rfl ?_
              refine X_iload_n C 2 (D (74, .iload_n 2, 1) (mg 40 rfl)) rfl rfl ?_
              refine X_icmp_le (tgt := 83) C (D (75, .if_icmp .le 8, 3) (mg 41 rfl)) (by decide) (fun q3 => ?_) (fun q3 => ?_)
              · skip
                have q3 : (lkN a1 (h (m + 8)) j (6)) ≤ (mAl a1 (h (m + 8)) j) := by have z := (nI_leI (a := (lkN a1 (h (m + 8)) j (6))) (b := (mAl a1 (h (m + 8)) j)) (by omega) (by omega)).mp q3; omega
                refine X_iload_n C 2 (D (83, .iload_n 2, 1) (mg 44 rfl)) rfl rfl ?_
                refine X_istore_n (ls' := [some (.ref (wA w (m))), some (.int (a1)), some (.int (nI (mAl a1 (h (m + 8)) j))), some (.int (nI (j))), some (.int (nI (lkN a1 (h (m + 8)) j (6)))), some (.int (nI (6)))]) C 2 (D (84, .istore_n 2, 1) (mg 45 rfl)) rfl (Nat.le_of_ble_eq_true rfl) rfl ?_
                refine X_iinc (v := nI (j + 1)) (ls' := [some (.ref (wA w (m))), some (.int (a1)), some (.int (nI (mAl a1 (h (m + 8)) j))), some (.int (nI (j + 1))), some (.int (nI (lkN a1 (h (m + 8)) j (6)))), some (.int (nI (6)))]) C (D (85, .iinc 3 1, 3) (mg 46 rfl)) rfl (nI_add (j) 1) rfl ?_
                refine X_goto (tgt := 4) C (D (88, .goto (-84), 3) (mg 47 rfl)) (by decide) ?_
                refine X_los (ls' := [some (.ref (wA w (m))), some (.int (a1)), some (.int (nI (mAl a1 (h (m + 8)) j))), some (.int (nI (j + 1))), none, none]) (by simp [lsub]) ?_
                refine X_eq (ls' := [some (.ref (wA w (m))), some (.int (a1)), some (.int (nI (mAl a1 (h (m + 8)) (j + 1)))), some (.int (nI (j + 1))), none, none]) (st' := []) (h' := h) (g' := g) (by first | rw [show mAl a1 (h (m + 8)) j = mAl a1 (h (m + 8)) (j + 1) from mAl_2 (by assumption) (by omega)] | rw [show mAl a1 (h (m + 8)) j = mAl a1 (h (m + 8)) (j + 1) from mAl_f (by assumption)]) rfl rfl rfl ?_
                exact ih4 (j + 1) (by omega) (by omega)
              · skip
                have q3 : (lkN a1 (h (m + 8)) j (6)) > (mAl a1 (h (m + 8)) j) := by have z : ¬ ((lkN a1 (h (m + 8)) j (6)) ≤ (mAl a1 (h (m + 8)) j)) := fun u => q3 ((nI_leI (a := (lkN a1 (h (m + 8)) j (6))) (b := (mAl a1 (h (m + 8)) j)) (by omega) (by omega)).mpr u); omega
                refine X_iload C (D (78, .iload 4, 2) (mg 42 rfl)) rfl ?_
                refine X_goto (tgt := 84) C (D (80, .goto 4, 3) (mg 43 rfl)) (by decide) ?_
                refine X_istore_n (ls' := [some (.ref (wA w (m))), some (.int (a1)), some (.int (nI (lkN a1 (h (m + 8)) j (6)))), some (.int (nI (j))), some (.int (nI (lkN a1 (h (m + 8)) j (6)))), some (.int (nI (6)))]) C 2 (D (84, .istore_n 2, 1) (mg 45 rfl)) rfl (Nat.le_of_ble_eq_true rfl) rfl ?_
                refine X_iinc (v := nI (j + 1)) (ls' := [some (.ref (wA w (m))), some (.int (a1)), some (.int (nI (lkN a1 (h (m + 8)) j (6)))), some (.int (nI (j + 1))), some (.int (nI (lkN a1 (h (m + 8)) j (6)))), some (.int (nI (6)))]) C (D (85, .iinc 3 1, 3) (mg 46 rfl)) rfl (nI_add (j) 1) rfl ?_
                refine X_goto (tgt := 4) C (D (88, .goto (-84), 3) (mg 47 rfl)) (by decide) ?_
                refine X_los (ls' := [some (.ref (wA w (m))), some (.int (a1)), some (.int (nI (lkN a1 (h (m + 8)) j (6)))), some (.int (nI (j + 1))), none, none]) (by simp [lsub]) ?_
                refine X_eq (ls' := [some (.ref (wA w (m))), some (.int (a1)), some (.int (nI (mAl a1 (h (m + 8)) (j + 1)))), some (.int (nI (j + 1))), none, none]) (st' := []) (h' := h) (g' := g) (by first | exact False.elim (by omega) | rw [show lkN a1 (h (m + 8)) j (6) = mAl a1 (h (m + 8)) (j + 1) from mAl_1 (by assumption) (by omega)]) rfl rfl rfl ?_
                exact ih4 (j + 1) (by omega) (by omega)
            · skip
              have q2 : (i5) < (6) := by have z : ¬ ((6) ≤ (i5)) := fun u => q2 ((nI_leI (a := (6)) (b := (i5)) (by omega) (by omega)).mpr u); omega
              refine X_iload_n C 1 (D (23, .iload_n 1, 1) (mg 14 rfl)) rfl rfl ?_
              refine X_iload_n C 3 (D (24, .iload_n 3, 1) (mg 15 rfl)) rfl rfl ?_
              refine X_cS (As := [.int (a1), .int (nI (j))]) (st := []) C (post := _) (ct_X8_has hw (a1) (nI (j)) h g) kX8_158 (by decide) (by decide) rfl rfl (Nat.le_of_ble_eq_true rfl) (D (25, .invokestatic 158, 3) (mg 16 rfl)) rfl (fun v6 H4 G5 hv6 => ?_)
              obtain ⟨rfl, rfl, rfl⟩ := hv6
              show X k w _ 28 [some (.ref (wA w (m))), some (.int (a1)), some (.int (nI (mAl a1 (h (m + 8)) j))), some (.int (nI (j))), some (.int (nI (lkN a1 (h (m + 8)) j (i5)))), some (.int (nI (i5)))] [.int (if bt (a1) (j) then 1 else 0)] h g
              refine X_if_eq (tgt := 72) C (D (28, .ifCond .eq 44, 3) (mg 17 rfl)) (by decide) (fun q7 => ?_) (fun q7 => ?_)
              · skip
                have q7 : ¬ (bt (a1) (j)) := bz0.mp q7
                have hi5 : i5 = 0 := hc16_1.elim (fun u_ => u_) (fun u_ => absurd u_ q7)
                have hl0_ : lkN a1 (h (m + 8)) j i5 = 0 := by rw [hi5]; rfl
                have hb2_ := mAl_le a1 (h (m + 8)) j
                refine X_iload C (D (72, .iload 4, 2) (mg 39 rfl)) rfl ?_
                refine X_iload_n C 2 (D (74, .iload_n 2, 1) (mg 40 rfl)) rfl rfl ?_
                refine X_icmp_le (tgt := 83) C (D (75, .if_icmp .le 8, 3) (mg 41 rfl)) (by decide) (fun q8 => ?_) (fun q8 => ?_)
                · skip
                  have q8 : (lkN a1 (h (m + 8)) j (i5)) ≤ (mAl a1 (h (m + 8)) j) := by have z := (nI_leI (a := (lkN a1 (h (m + 8)) j (i5))) (b := (mAl a1 (h (m + 8)) j)) (by omega) (by omega)).mp q8; omega
                  refine X_iload_n C 2 (D (83, .iload_n 2, 1) (mg 44 rfl)) rfl rfl ?_
                  refine X_istore_n (ls' := [some (.ref (wA w (m))), some (.int (a1)), some (.int (nI (mAl a1 (h (m + 8)) j))), some (.int (nI (j))), some (.int (nI (lkN a1 (h (m + 8)) j (i5)))), some (.int (nI (i5)))]) C 2 (D (84, .istore_n 2, 1) (mg 45 rfl)) rfl (Nat.le_of_ble_eq_true rfl) rfl ?_
                  refine X_iinc (v := nI (j + 1)) (ls' := [some (.ref (wA w (m))), some (.int (a1)), some (.int (nI (mAl a1 (h (m + 8)) j))), some (.int (nI (j + 1))), some (.int (nI (lkN a1 (h (m + 8)) j (i5)))), some (.int (nI (i5)))]) C (D (85, .iinc 3 1, 3) (mg 46 rfl)) rfl (nI_add (j) 1) rfl ?_
                  refine X_goto (tgt := 4) C (D (88, .goto (-84), 3) (mg 47 rfl)) (by decide) ?_
                  refine X_los (ls' := [some (.ref (wA w (m))), some (.int (a1)), some (.int (nI (mAl a1 (h (m + 8)) j))), some (.int (nI (j + 1))), none, none]) (by simp [lsub]) ?_
                  refine X_eq (ls' := [some (.ref (wA w (m))), some (.int (a1)), some (.int (nI (mAl a1 (h (m + 8)) (j + 1)))), some (.int (nI (j + 1))), none, none]) (st' := []) (h' := h) (g' := g) (by first | rw [show mAl a1 (h (m + 8)) j = mAl a1 (h (m + 8)) (j + 1) from mAl_2 (by assumption) (by omega)] | rw [show mAl a1 (h (m + 8)) j = mAl a1 (h (m + 8)) (j + 1) from mAl_f (by assumption)]) rfl rfl rfl ?_
                  exact ih4 (j + 1) (by omega) (by omega)
                · skip
                  have q8 : (lkN a1 (h (m + 8)) j (i5)) > (mAl a1 (h (m + 8)) j) := by have z : ¬ ((lkN a1 (h (m + 8)) j (i5)) ≤ (mAl a1 (h (m + 8)) j)) := fun u => q8 ((nI_leI (a := (lkN a1 (h (m + 8)) j (i5))) (b := (mAl a1 (h (m + 8)) j)) (by omega) (by omega)).mpr u); omega
                  refine X_iload C (D (78, .iload 4, 2) (mg 42 rfl)) rfl ?_
                  refine X_goto (tgt := 84) C (D (80, .goto 4, 3) (mg 43 rfl)) (by decide) ?_
                  refine X_istore_n (ls' := [some (.ref (wA w (m))), some (.int (a1)), some (.int (nI (lkN a1 (h (m + 8)) j (i5)))), some (.int (nI (j))), some (.int (nI (lkN a1 (h (m + 8)) j (i5)))), some (.int (nI (i5)))]) C 2 (D (84, .istore_n 2, 1) (mg 45 rfl)) rfl (Nat.le_of_ble_eq_true rfl) rfl ?_
                  refine X_iinc (v := nI (j + 1)) (ls' := [some (.ref (wA w (m))), some (.int (a1)), some (.int (nI (lkN a1 (h (m + 8)) j (i5)))), some (.int (nI (j + 1))), some (.int (nI (lkN a1 (h (m + 8)) j (i5)))), some (.int (nI (i5)))]) C (D (85, .iinc 3 1, 3) (mg 46 rfl)) rfl (nI_add (j) 1) rfl ?_
                  refine X_goto (tgt := 4) C (D (88, .goto (-84), 3) (mg 47 rfl)) (by decide) ?_
                  refine X_los (ls' := [some (.ref (wA w (m))), some (.int (a1)), some (.int (nI (lkN a1 (h (m + 8)) j (i5)))), some (.int (nI (j + 1))), none, none]) (by simp [lsub]) ?_
                  refine X_eq (ls' := [some (.ref (wA w (m))), some (.int (a1)), some (.int (nI (mAl a1 (h (m + 8)) (j + 1)))), some (.int (nI (j + 1))), none, none]) (st' := []) (h' := h) (g' := g) (by first | exact False.elim (by omega) | rw [show lkN a1 (h (m + 8)) j (i5) = mAl a1 (h (m + 8)) (j + 1) from mAl_1 (by assumption) (by omega)]) rfl rfl rfl ?_
                  exact ih4 (j + 1) (by omega) (by omega)
              · skip
                have q7 : (bt (a1) (j)) := bz1.mp q7
                refine X_iload C (D (31, .iload 4, 2) (mg 18 rfl)) rfl ?_
                refine X_iload_n C 1 (D (33, .iload_n 1, 1) (mg 19 rfl)) rfl rfl ?_
                refine X_iload C (D (34, .iload 5, 2) (mg 20 rfl)) rfl ?_
                refine X_cS (As := [.int (a1), .int (nI (i5))]) (st := [.int (nI (lkN a1 (h (m + 8)) j (i5)))]) C (post := _) (ct_X8_has hw (a1) (nI (i5)) h g) kX8_158 (by decide) (by decide) rfl rfl (Nat.le_of_ble_eq_true rfl) (D (36, .invokestatic 158, 3) (mg 21 rfl)) rfl (fun v11 H9 G10 hv11 => ?_)
                obtain ⟨rfl, rfl, rfl⟩ := hv11
                show X k w _ 39 [some (.ref (wA w (m))), some (.int (a1)), some (.int (nI (mAl a1 (h (m + 8)) j))), some (.int (nI (j))), some (.int (nI (lkN a1 (h (m + 8)) j (i5)))), some (.int (nI (i5)))] [.int (if bt (a1) (i5) then 1 else 0), .int (nI (lkN a1 (h (m + 8)) j (i5)))] h g
                refine X_if_eq (tgt := 62) C (D (39, .ifCond .eq 23, 3) (mg 22 rfl)) (by decide) (fun q12 => ?_) (fun q12 => ?_)
                · skip
                  have q12 : ¬ (bt (a1) (i5)) := bz0.mp q12
                  refine X_iconst (v := nI (0)) C (D (62, .iconst 0, 1) (mg 34 rfl)) (by decide) ?_
                  refine X_iadd C (D (63, .iadd, 1) (mg 35 rfl)) ?_
                  refine X_ti (y := nI (lkN a1 (h (m + 8)) j (i5) + 0)) (nI_add (lkN a1 (h (m + 8)) j (i5)) (0)) ?_
                  refine X_istore (ls' := [some (.ref (wA w (m))), some (.int (a1)), some (.int (nI (mAl a1 (h (m + 8)) j))), some (.int (nI (j))), some (.int (nI (lkN a1 (h (m + 8)) j (i5) + 0))), some (.int (nI (i5)))]) C (D (64, .istore 4, 2) (mg 36 rfl)) (Nat.le_of_ble_eq_true rfl) rfl ?_
                  refine X_iinc (v := nI (i5 + 1)) (ls' := [some (.ref (wA w (m))), some (.int (a1)), some (.int (nI (mAl a1 (h (m + 8)) j))), some (.int (nI (j))), some (.int (nI (lkN a1 (h (m + 8)) j (i5) + 0))), some (.int (nI (i5 + 1)))]) C (D (66, .iinc 5 1, 3) (mg 37 rfl)) rfl (nI_add (i5) 1) rfl ?_
                  refine X_goto (tgt := 16) C (D (69, .goto (-53), 3) (mg 38 rfl)) (by decide) ?_
                  refine X_eq (ls' := [some (.ref (wA w (m))), some (.int (a1)), some (.int (nI (mAl a1 (h (m + 8)) j))), some (.int (nI (j))), some (.int (nI (lkN a1 (h (m + 8)) j (i5 + 1)))), some (.int (nI (i5 + 1)))]) (st' := []) (h' := h) (g' := g) (by first | rw [show lkN a1 (h (m + 8)) j (i5) + 0 = lkN a1 (h (m + 8)) j (i5 + 1) from cn_f (p := fun b => bt a1 b ∧ (h (m + 8)) b = (h (m + 8)) j) (fun u_ => absurd u_.1 (by assumption))] | rw [show lkN a1 (h (m + 8)) j (i5) + 0 = lkN a1 (h (m + 8)) j (i5 + 1) from cn_f (p := fun b => bt a1 b ∧ (h (m + 8)) b = (h (m + 8)) j) (fun u_ => absurd (Eq.symm u_.2) (by assumption))]) rfl rfl rfl ?_
                  exact ih16 (i5 + 1) (by omega) (Or.inr (by assumption)) (by omega)
                · skip
                  have q12 : (bt (a1) (i5)) := bz1.mp q12
                  refine X_aload_n C 0 (D (42, .aload_n 0, 1) (mg 23 rfl)) rfl rfl ?_
                  refine X_get (v := .ref (wA w (m + 8))) C (m) 9 (by omega) hsm rfl rfl (by decide) inX8 fX8_36 rfl (D (43, .getfield 36, 3) (mg 24 rfl)) rfl ?_
                  refine X_iload_n C 3 (D (46, .iload_n 3, 1) (mg 25 rfl)) rfl rfl ?_
                  refine X_iald (v := h (m + 8) (j)) C (m + 8) (by omega) hs8 (vp_in_nI (by omega) (by omega)) (D (47, .iaload, 1) (mg 26 rfl)) (by rw [nI_clamp (by omega)]) ?_
                  refine X_aload_n C 0 (D (48, .aload_n 0, 1) (mg 27 rfl)) rfl rfl ?_
                  refine X_get (v := .ref (wA w (m + 8))) C (m) 9 (by omega) hsm rfl rfl (by decide) inX8 fX8_36 rfl (D (49, .getfield 36, 3) (mg 28 rfl)) rfl ?_
                  refine X_iload C (D (52, .iload 5, 2) (mg 29 rfl)) rfl ?_
                  refine X_iald (v := h (m + 8) (i5)) C (m + 8) (by omega) hs8 (vp_in_nI (by omega) (by omega)) (D (54, .iaload, 1) (mg 30 rfl)) (by rw [nI_clamp (by omega)]) ?_
                  refine X_icmp_ne (tgt := 62) C (D (55, .if_icmp .ne 7, 3) (mg 31 rfl)) (by decide) (fun q13 => ?_) (fun q13 => ?_)
                  · skip
                    refine X_iconst (v := nI (0)) C (D (62, .iconst 0, 1) (mg 34 rfl)) (by decide) ?_
                    refine X_iadd C (D (63, .iadd, 1) (mg 35 rfl)) ?_
                    refine X_ti (y := nI (lkN a1 (h (m + 8)) j (i5) + 0)) (nI_add (lkN a1 (h (m + 8)) j (i5)) (0)) ?_
                    refine X_istore (ls' := [some (.ref (wA w (m))), some (.int (a1)), some (.int (nI (mAl a1 (h (m + 8)) j))), some (.int (nI (j))), some (.int (nI (lkN a1 (h (m + 8)) j (i5) + 0))), some (.int (nI (i5)))]) C (D (64, .istore 4, 2) (mg 36 rfl)) (Nat.le_of_ble_eq_true rfl) rfl ?_
                    refine X_iinc (v := nI (i5 + 1)) (ls' := [some (.ref (wA w (m))), some (.int (a1)), some (.int (nI (mAl a1 (h (m + 8)) j))), some (.int (nI (j))), some (.int (nI (lkN a1 (h (m + 8)) j (i5) + 0))), some (.int (nI (i5 + 1)))]) C (D (66, .iinc 5 1, 3) (mg 37 rfl)) rfl (nI_add (i5) 1) rfl ?_
                    refine X_goto (tgt := 16) C (D (69, .goto (-53), 3) (mg 38 rfl)) (by decide) ?_
                    refine X_eq (ls' := [some (.ref (wA w (m))), some (.int (a1)), some (.int (nI (mAl a1 (h (m + 8)) j))), some (.int (nI (j))), some (.int (nI (lkN a1 (h (m + 8)) j (i5 + 1)))), some (.int (nI (i5 + 1)))]) (st' := []) (h' := h) (g' := g) (by first | rw [show lkN a1 (h (m + 8)) j (i5) + 0 = lkN a1 (h (m + 8)) j (i5 + 1) from cn_f (p := fun b => bt a1 b ∧ (h (m + 8)) b = (h (m + 8)) j) (fun u_ => absurd u_.1 (by assumption))] | rw [show lkN a1 (h (m + 8)) j (i5) + 0 = lkN a1 (h (m + 8)) j (i5 + 1) from cn_f (p := fun b => bt a1 b ∧ (h (m + 8)) b = (h (m + 8)) j) (fun u_ => absurd (Eq.symm u_.2) (by assumption))]) rfl rfl rfl ?_
                    exact ih16 (i5 + 1) (by omega) (Or.inr (by assumption)) (by omega)
                  · skip
                    refine X_iconst (v := nI (1)) C (D (58, .iconst 1, 1) (mg 32 rfl)) (by decide) ?_
                    refine X_goto (tgt := 63) C (D (59, .goto 4, 3) (mg 33 rfl)) (by decide) ?_
                    refine X_iadd C (D (63, .iadd, 1) (mg 35 rfl)) ?_
                    refine X_ti (y := nI (lkN a1 (h (m + 8)) j (i5) + 1)) (nI_add (lkN a1 (h (m + 8)) j (i5)) (1)) ?_
                    refine X_istore (ls' := [some (.ref (wA w (m))), some (.int (a1)), some (.int (nI (mAl a1 (h (m + 8)) j))), some (.int (nI (j))), some (.int (nI (lkN a1 (h (m + 8)) j (i5) + 1))), some (.int (nI (i5)))]) C (D (64, .istore 4, 2) (mg 36 rfl)) (Nat.le_of_ble_eq_true rfl) rfl ?_
                    refine X_iinc (v := nI (i5 + 1)) (ls' := [some (.ref (wA w (m))), some (.int (a1)), some (.int (nI (mAl a1 (h (m + 8)) j))), some (.int (nI (j))), some (.int (nI (lkN a1 (h (m + 8)) j (i5) + 1))), some (.int (nI (i5 + 1)))]) C (D (66, .iinc 5 1, 3) (mg 37 rfl)) rfl (nI_add (i5) 1) rfl ?_
                    refine X_goto (tgt := 16) C (D (69, .goto (-53), 3) (mg 38 rfl)) (by decide) ?_
                    refine X_eq (ls' := [some (.ref (wA w (m))), some (.int (a1)), some (.int (nI (mAl a1 (h (m + 8)) j))), some (.int (nI (j))), some (.int (nI (lkN a1 (h (m + 8)) j (i5 + 1)))), some (.int (nI (i5 + 1)))]) (st' := []) (h' := h) (g' := g) (by rw [show lkN a1 (h (m + 8)) j i5 + 1 = lkN a1 (h (m + 8)) j (i5 + 1) from cn_t (p := fun b => bt a1 b ∧ (h (m + 8)) b = (h (m + 8)) j) ⟨by assumption, (Eq.symm (by assumption))⟩]) rfl rfl rfl ?_
                    exact ih16 (i5 + 1) (by omega) (Or.inr (by assumption)) (by omega)
        refine X_eq (ls' := [some (.ref (wA w (m))), some (.int (a1)), some (.int (nI (mAl a1 (h (m + 8)) j))), some (.int (nI (j))), some (.int (nI (lkN a1 (h (m + 8)) j (0)))), some (.int (nI (0)))]) (st' := []) (h' := h) (g' := g) rfl rfl rfl rfl ?_
        exact lp16 _ (0) (by omega) (Or.inl rfl) (Nat.le_refl _)
  refine X_eq (ls' := [some (.ref (wA w (m))), some (.int (a1)), some (.int (nI (mAl a1 (h (m + 8)) (0)))), some (.int (nI (0))), none, none]) (st' := []) (h' := h) (g' := g) rfl rfl rfl rfl ?_
  exact lp4 _ (0) (by omega) (Nat.le_refl _)
def tlT (S : Int32) (k : Nat) : Nat := mAl S (fun kd => hiC (nI kd) (nI (k / 21)) (nI (k % 21))) 6
def tlC (k : Nat) : Nat := 100 * (k / 21) + k % 21
def akT (S : Int32) (k : Nat) : Nat := mAl S (fun kd => deC (nI kd) (nI (k % 10)) (nI (k / 10))) 6
def akC (k : Nat) : Nat := 10 * (k / 10) + k % 10
/-- the answers: the class's, the reference's -/
def loC (T : Int32 → Nat → Nat) (C : Nat → Nat) (N : Nat) (S : Int32) : Int32 := if S = 0 then (-1 : Int32) else foB (T S) C 7 N
def loM (T : Int32 → Nat → Nat) (C : Nat → Nat) (N : Nat) (S : Int32) : Int32 := if S ≤ 0 then (-1 : Int32) else foB (T S) C 1000000 N
theorem loC_1 {T : Int32 → Nat → Nat} {C : Nat → Nat} {N j : Nat} {S : Int32} (h : j = 0 ∨ ¬ S = 0) (hN : 0 < N) (hj : j = N) : loC T C N S = foB (T S) C 7 j := by
  unfold loC; rw [if_neg (h.resolve_left (by omega)), hj]
theorem loC_0 {T : Int32 → Nat → Nat} {C : Nat → Nat} {N j : Nat} {S : Int32} (h : j = 0 ∨ ¬ S = 0) (hS : S = 0) : loC T C N S = foB (T S) C 7 j := by
  unfold loC; rw [if_pos hS, h.resolve_right (fun z => z hS)]; rfl
theorem loM_1 {T : Int32 → Nat → Nat} {C : Nat → Nat} {N j : Nat} {S : Int32} (h : j = 0 ∨ ¬ S ≤ 0) (hN : 0 < N) (hj : j = N) : loM T C N S = foB (T S) C 1000000 j := by
  unfold loM; rw [if_neg (h.resolve_left (by omega)), hj]
theorem loM_0 {T : Int32 → Nat → Nat} {C : Nat → Nat} {N j : Nat} {S : Int32} (h : j = 0 ∨ ¬ S ≤ 0) (hS : S ≤ 0) : loM T C N S = foB (T S) C 1000000 j := by
  unfold loM; rw [if_pos hS, h.resolve_right (fun z => z hS)]; rfl
theorem or_bit : ∀ n, n < 6 → ∀ a, a < 64 → nI a ||| (nI 1 <<< (nI n &&& 31)) = nI (a ||| 2 ^ n) := by decide +kernel
theorem or_lt : ∀ n, n < 6 → ∀ a, a < 64 → a ||| 2 ^ n < 64 := by decide +kernel
theorem dpB_6 {P : Nat → Prop} [DecidablePred P] : ∀ n, n ≤ 6 → ∃ k, k < 64 ∧ dpB P n = nI k
  | 0, _ => ⟨0, by omega, rfl⟩
  | n + 1, hn => by
    obtain ⟨k, hk, e⟩ := dpB_6 (P := P) n (by omega)
    by_cases q : P n
    · exact ⟨k ||| 2 ^ n, or_lt n (by omega) k hk, by rw [← dpB_t q, e, or_bit n (by omega) k hk]⟩
    · exact ⟨k, hk, by rw [← dpB_n q, e]⟩
theorem lo_e {T : Int32 → Nat → Nat} {C : Nat → Nat} {N : Nat} {P : Nat → Prop} [DecidablePred P] (hT : ∀ S, T S 0 ≤ 6) (hN : 0 < N) : loC T C N (dpB P 6) = loM T C N (dpB P 6) := by
  obtain ⟨k, hk, e⟩ := dpB_6 (P := P) 6 (by omega)
  rw [e]
  unfold loC loM
  by_cases q : k = 0
  · subst q; rw [if_pos (show nI 0 = (0 : Int32) from rfl), if_pos (show nI 0 ≤ (0 : Int32) from by decide)]
  · rw [if_neg (nI_n0 q (by omega)), if_neg (fun z => q (by have := (nI_leI (a := k) (b := 0) (by omega) (by omega)).mp z; omega))]
    have h1 := hT (nI k)
    have := (fo_eq (T := T (nI k)) (C := C) (f0 := 7) (f1 := 1000000) (by omega) (by omega) (N - 1)).2
    rw [show N - 1 + 1 = N by omega] at this
    exact this
set_option maxHeartbeats 4000000 in
set_option maxRecDepth 100000 in
theorem cx_X7_tell {l : Launch} {w : Kw} (hw : wOk w) {x : Nat} (hC : shC w x) (a1 : Int32) {ns : Nat} (hns : ns ≤ 5) (h : xI) (g : xJ) (hse : h (x + 1) 4 = nI ns) : Ct l w yX7_tell cX7_tell 9 (some .int) 4 94 [.ref (wA w (x)), .int (a1)] h g (pif (0 ≤ a1.toInt ∧ a1.toInt < 25) (pL (loC tlT tlC 210 (dpB (fun kd => fS h x kd a1 ns) 6)) (x + 38) h) (px (some (.int (-2 : Int32))) (rcH h x 9) g)) := by
  refine Ct_of (ls := [some (.ref (wA w (x))), some (.int (a1)), none, none, none, none, none, none, none]) (by decide) hw (Nat.le_of_ble_eq_true rfl) rfl (fun k hkl C => ?_)
  have C : Cx k w cX7_tell RX7 9 (some .int) 4 94 := C
  have D := dtX7_tell
  subst hkl
  generalize hPP : (pif (0 ≤ a1.toInt ∧ a1.toInt < 25) (pL (loC tlT tlC 210 (dpB (fun kd => fS h x kd a1 ns) 6)) (x + 38) h) (px (some (.int (-2 : Int32))) (rcH h x 9) g)) = PP
  have hC0 := hC
  obtain ⟨hxn, hsx, hT, hsi, hTa, hTb, hsk, hNs, hY, hX, hsv⟩ := hC
  have hY2 := hY.1
  have hX2 := hX.1
  refine X_iload_n C 1 (D (0, .iload_n 1, 1) (mg 0 rfl)) rfl rfl ?_
  refine X_bipush (v := nI (25)) C (D (1, .bipush 25, 2) (mg 1 rfl)) (by decide) ?_
  refine X_cS (As := [.int (a1), .int (nI (25))]) (st := []) C (post := _) (ct_X7_isBelow hw (a1) (B := 25) (by decide) h g) kX7_53 (by decide) (by decide) rfl rfl (Nat.le_of_ble_eq_true rfl) (D (3, .invokestatic 53, 3) (mg 2 rfl)) rfl (fun v3 H1 G2 hv3 => ?_)
  obtain ⟨rfl, rfl, rfl⟩ := hv3
  show X k w _ 6 [some (.ref (wA w (x))), some (.int (a1)), none, none, none, none, none, none, none] [.int (if 0 ≤ (a1).toInt ∧ (a1).toInt < ((25 : Nat) : Int) then 1 else 0)] h g
  refine X_if_ne (tgt := 14) C (D (6, .ifCond .ne 8, 3) (mg 3 rfl)) (by decide) (fun q4 => ?_) (fun q4 => ?_)
  · skip
    have q4 : (0 ≤ (a1).toInt ∧ (a1).toInt < ((25 : Nat) : Int)) := bz1.mp q4
    refine X_aload_n C 0 (D (14, .aload_n 0, 1) (mg 7 rfl)) rfl rfl ?_
    refine X_iload_n C 1 (D (15, .iload_n 1, 1) (mg 8 rfl)) rfl rfl ?_
    refine X_cV (As := [.int (a1)]) (st := []) C (post := _) (x) (by omega) hsx rfl (cx_X7_sayingsFor hw hC0 (a1) (ns := ns) hns h g hse) kX7_191 (by decide) (by decide) rfl rfl (Nat.le_of_ble_eq_true rfl) (D (16, .invokevirtual 191, 3) (mg 9 rfl)) rfl (fun v7 H5 G6 hv7 => ?_)
    obtain ⟨rfl, rfl, rfl⟩ := hv7
    obtain ⟨S, hS⟩ : ∃ S, S = dpB (fun kd => fS h x kd (a1) ns) 6 := ⟨_, rfl⟩
    rw [← hS]
    show X k w _ 19 [some (.ref (wA w (x))), some (.int (a1)), none, none, none, none, none, none, none] [.int (S)] h g
    refine X_istore_n (ls' := [some (.ref (wA w (x))), some (.int (a1)), some (.int (S)), none, none, none, none, none, none]) C 2 (D (19, .istore_n 2, 1) (mg 10 rfl)) rfl (Nat.le_of_ble_eq_true rfl) rfl ?_
    refine X_bipush (v := nI (7)) C (D (20, .bipush 7, 2) (mg 11 rfl)) (by decide) ?_
    refine X_istore_n (ls' := [some (.ref (wA w (x))), some (.int (a1)), some (.int (S)), some (.int (nI (7))), none, none, none, none, none]) C 3 (D (22, .istore_n 3, 1) (mg 12 rfl)) rfl (Nat.le_of_ble_eq_true rfl) rfl ?_
    refine X_iconst (v := (-1 : Int32)) C (D (23, .iconst (-1), 1) (mg 13 rfl)) (by decide) ?_
    refine X_istore (ls' := [some (.ref (wA w (x))), some (.int (a1)), some (.int (S)), some (.int (nI (7))), some (.int ((-1 : Int32))), none, none, none, none]) C (D (24, .istore 4, 2) (mg 14 rfl)) (Nat.le_of_ble_eq_true rfl) rfl ?_
    refine X_iconst (v := nI (0)) C (D (26, .iconst 0, 1) (mg 15 rfl)) (by decide) ?_
    refine X_istore (ls' := [some (.ref (wA w (x))), some (.int (a1)), some (.int (S)), some (.int (nI (7))), some (.int ((-1 : Int32))), some (.int (nI (0))), none, none, none]) C (D (27, .istore 5, 2) (mg 16 rfl)) (Nat.le_of_ble_eq_true rfl) rfl ?_
    have lp29 : ∀ (nn29 : Nat) (j : Nat) (hp29 : xI), (j ≤ 210) → (j = 0 ∨ ¬ S = 0) → (∀ q i, q ≠ x + 38 → hp29 q i = h q i) → 211 - j ≤ nn29 → X k w (Zq k w (PP)) 29 [some (.ref (wA w (x))), some (.int (a1)), some (.int (S)), some (.int (nI (foF (tlT S) 7 (j)))), some (.int (foB (tlT S) tlC 7 (j))), some (.int (nI (j))), none, none, none] [] hp29 g := by
      intro nn29
      induction nn29 with
      | zero => intro j hp29 hc29_0 hc29_1 hc29_2 hz; exact absurd hz (by omega)
      | succ nn29 ih29 =>
        intro j hp29 hc29_0 hc29_1 hc29_2 hz29
        refine X_iload C (D (29, .iload 5, 2) (mg 17 rfl)) rfl ?_
        refine X_sipush (v := nI (210)) C (D (31, .sipush 210, 3) (mg 18 rfl)) (by decide) ?_
        refine X_icmp_ge (tgt := 119) C (D (34, .if_icmp .ge 85, 3) (mg 19 rfl)) (by decide) (fun q8 => ?_) (fun q8 => ?_)
        · skip
          have q8 : (j) ≥ (210) := by have z := (nI_leI (a := (210)) (b := (j)) (by omega) (by omega)).mp q8; omega
          refine X_iload C (D (119, .iload 4, 2) (mg 62 rfl)) rfl ?_
          exact X_iret C (D (121, .ireturn, 1) (mg 63 rfl)) (by rw [← hPP]; exact (by subst hS; exact ⟨fun _ => ⟨(congrArg (fun z => some (Value.int z)) (by first | exact loC_1 hc29_1 (by omega) (by omega) | exact loC_0 hc29_1 (by assumption))).symm, fun q i z => hc29_2 q i z⟩, fun z => absurd (by omega) z⟩))
        · skip
          have q8 : (j) < (210) := by have z : ¬ ((210) ≤ (j)) := fun u => q8 ((nI_leI (a := (210)) (b := (j)) (by omega) (by omega)).mpr u); omega
          refine X_iload_n C 2 (D (37, .iload_n 2, 1) (mg 20 rfl)) rfl rfl ?_
          refine X_if_eq (tgt := 119) C (D (38, .ifCond .eq 81, 3) (mg 21 rfl)) (by decide) (fun q9 => ?_) (fun q9 => ?_)
          · skip
            refine X_iload C (D (119, .iload 4, 2) (mg 62 rfl)) rfl ?_
            exact X_iret C (D (121, .ireturn, 1) (mg 63 rfl)) (by rw [← hPP]; exact (by subst hS; exact ⟨fun _ => ⟨(congrArg (fun z => some (Value.int z)) (by first | exact loC_1 hc29_1 (by omega) (by omega) | exact loC_0 hc29_1 (by assumption))).symm, fun q i z => hc29_2 q i z⟩, fun z => absurd (by omega) z⟩))
          · skip
            have hS0_ : ¬ S = 0 := q9
            refine X_iload C (D (41, .iload 5, 2) (mg 22 rfl)) rfl ?_
            refine X_bipush (v := nI (21)) C (D (43, .bipush 21, 2) (mg 23 rfl)) (by decide) ?_
            refine X_idiv C (D (45, .idiv, 1) (mg 24 rfl)) (by decide) ?_
            refine X_ti (y := nI ((j) / (21))) (pk_div (by omega) (by omega) (by omega)) ?_
            refine X_istore (ls' := [some (.ref (wA w (x))), some (.int (a1)), some (.int (S)), some (.int (nI (foF (tlT S) 7 (j)))), some (.int (foB (tlT S) tlC 7 (j))), some (.int (nI (j))), some (.int (nI ((j) / (21)))), none, none]) C (D (46, .istore 6, 2) (mg 25 rfl)) (Nat.le_of_ble_eq_true rfl) rfl ?_
            refine X_iload C (D (48, .iload 5, 2) (mg 26 rfl)) rfl ?_
            refine X_bipush (v := nI (21)) C (D (50, .bipush 21, 2) (mg 27 rfl)) (by decide) ?_
            refine X_irem C (D (52, .irem, 1) (mg 28 rfl)) (by decide) ?_
            refine X_ti (y := nI ((j) % (21))) (pk_rem (by omega) (by omega) (by omega)) ?_
            refine X_istore (ls' := [some (.ref (wA w (x))), some (.int (a1)), some (.int (S)), some (.int (nI (foF (tlT S) 7 (j)))), some (.int (foB (tlT S) tlC 7 (j))), some (.int (nI (j))), some (.int (nI ((j) / (21)))), some (.int (nI ((j) % (21)))), none]) C (D (53, .istore 7, 2) (mg 29 rfl)) (Nat.le_of_ble_eq_true rfl) rfl ?_
            refine X_iconst (v := nI (0)) C (D (55, .iconst 0, 1) (mg 30 rfl)) (by decide) ?_
            refine X_istore (ls' := [some (.ref (wA w (x))), some (.int (a1)), some (.int (S)), some (.int (nI (foF (tlT S) 7 (j)))), some (.int (foB (tlT S) tlC 7 (j))), some (.int (nI (j))), some (.int (nI ((j) / (21)))), some (.int (nI ((j) % (21)))), some (.int (nI (0)))]) C (D (56, .istore 8, 2) (mg 31 rfl)) (Nat.le_of_ble_eq_true rfl) rfl ?_
            have lp58 : ∀ (nn58 : Nat) (i8 : Nat) (hp58 : xI), (i8 ≤ 6) → (∀ q i, q ≠ x + 38 → hp58 q i = h q i) → (∀ k, k < i8 → hp58 (x + 38) k = hiC (nI (k)) (nI (j / 21)) (nI (j % 21))) → 7 - i8 ≤ nn58 → X k w (Zq k w (PP)) 58 [some (.ref (wA w (x))), some (.int (a1)), some (.int (S)), some (.int (nI (foF (tlT S) 7 (j)))), some (.int (foB (tlT S) tlC 7 (j))), some (.int (nI (j))), some (.int (nI ((j) / (21)))), some (.int (nI ((j) % (21)))), some (.int (nI (i8)))] [] hp58 g := by
              intro nn58
              induction nn58 with
              | zero => intro i8 hp58 hc58_0 hc58_1 hc58_2 hz; exact absurd hz (by omega)
              | succ nn58 ih58 =>
                intro i8 hp58 hc58_0 hc58_1 hc58_2 hz58
                refine X_iload C (D (58, .iload 8, 2) (mg 32 rfl)) rfl ?_
                refine X_bipush (v := nI (6)) C (D (60, .bipush 6, 2) (mg 33 rfl)) (by decide) ?_
                refine X_icmp_ge (tgt := 87) C (D (62, .if_icmp .ge 25, 3) (mg 34 rfl)) (by decide) (fun q10 => ?_) (fun q10 => ?_)
                · skip
                  have q10 : (i8) ≥ (6) := by have z := (nI_leI (a := (6)) (b := (i8)) (by omega) (by omega)).mp q10; omega
                  refine X_aload_n C 0 (D (87, .aload_n 0, 1) (mg 45 rfl)) rfl rfl ?_
                  refine X_iload_n C 2 (D (88, .iload_n 2, 1) (mg 46 rfl)) rfl rfl ?_
                  refine X_cV (As := [.int (S)]) (st := []) C (post := _) (x) (by omega) hsx rfl (cx_X7_mostAlike hw hC0 (S) hp58 g) kX7_200 (by decide) (by decide) rfl rfl (Nat.le_of_ble_eq_true rfl) (D (89, .invokevirtual 200, 3) (mg 47 rfl)) rfl (fun v13 H11 G12 hv13 => ?_)
                  obtain ⟨rfl, rfl, rfl⟩ := hv13
                  show X k w _ 92 [some (.ref (wA w (x))), some (.int (a1)), some (.int (S)), some (.int (nI (foF (tlT S) 7 (j)))), some (.int (foB (tlT S) tlC 7 (j))), some (.int (nI (j))), some (.int (nI ((j) / (21)))), some (.int (nI ((j) % (21)))), some (.int (nI (i8)))] [.int (nI (mAl (S) (hp58 (x + 38)) 6))] hp58 g
                  refine X_ti (y := nI (tlT S (j))) (congrArg nI (mAl_c (fun k hk => hc58_2 k (by omega)) 6 (Nat.le_refl _))) ?_
                  refine X_istore (ls' := [some (.ref (wA w (x))), some (.int (a1)), some (.int (S)), some (.int (nI (foF (tlT S) 7 (j)))), some (.int (foB (tlT S) tlC 7 (j))), some (.int (nI (j))), some (.int (nI ((j) / (21)))), some (.int (nI ((j) % (21)))), some (.int (nI (tlT S (j))))]) C (D (92, .istore 8, 2) (mg 48 rfl)) (Nat.le_of_ble_eq_true rfl) rfl ?_
                  have hb1_ : tlT S j ≤ 6 := mAl_le _ _ _
                  have hb2_ : foF (tlT S) 7 j ≤ 7 := foF_le _
                  refine X_iload C (D (94, .iload 8, 2) (mg 49 rfl)) rfl ?_
                  refine X_iload_n C 3 (D (96, .iload_n 3, 1) (mg 50 rfl)) rfl rfl ?_
                  refine X_icmp_ge (tgt := 113) C (D (97, .if_icmp .ge 16, 3) (mg 51 rfl)) (by decide) (fun q14 => ?_) (fun q14 => ?_)
                  · skip
                    have q14 : (tlT S (j)) ≥ (foF (tlT S) 7 (j)) := by have z := (nI_leI (a := (foF (tlT S) 7 (j))) (b := (tlT S (j))) (by omega) (by omega)).mp q14; omega
                    refine X_iinc (v := nI (j + 1)) (ls' := [some (.ref (wA w (x))), some (.int (a1)), some (.int (S)), some (.int (nI (foF (tlT S) 7 (j)))), some (.int (foB (tlT S) tlC 7 (j))), some (.int (nI (j + 1))), some (.int (nI ((j) / (21)))), some (.int (nI ((j) % (21)))), some (.int (nI (tlT S (j))))]) C (D (113, .iinc 5 1, 3) (mg 60 rfl)) rfl (nI_add (j) 1) rfl ?_
                    refine X_goto (tgt := 29) C (D (116, .goto (-87), 3) (mg 61 rfl)) (by decide) ?_
                    refine X_los (ls' := [some (.ref (wA w (x))), some (.int (a1)), some (.int (S)), some (.int (nI (foF (tlT S) 7 (j)))), some (.int (foB (tlT S) tlC 7 (j))), some (.int (nI (j + 1))), none, none, none]) (by simp [lsub]) ?_
                    refine X_eq (ls' := [some (.ref (wA w (x))), some (.int (a1)), some (.int (S)), some (.int (nI (foF (tlT S) 7 (j + 1)))), some (.int (foB (tlT S) tlC 7 (j + 1))), some (.int (nI (j + 1))), none, none, none]) (st' := []) (h' := hp58) (g' := g) (by rw [show nI (foF (tlT S) 7 (j)) = nI (foF (tlT S) 7 (j + 1)) from congrArg nI (foF_f (by omega)), show foB (tlT S) tlC 7 (j) = foB (tlT S) tlC 7 (j + 1) from (foB_f (by omega))]) rfl rfl rfl ?_
                    exact ih29 (j + 1) (hp58) (by omega) (Or.inr hS0_) (fun q i z => by skip; exact hc58_1 q i z) (by omega)
                  · skip
                    have q14 : (tlT S (j)) < (foF (tlT S) 7 (j)) := by have z : ¬ ((foF (tlT S) 7 (j)) ≤ (tlT S (j))) := fun u => q14 ((nI_leI (a := (foF (tlT S) 7 (j))) (b := (tlT S (j))) (by omega) (by omega)).mpr u); omega
                    refine X_iload C (D (100, .iload 8, 2) (mg 52 rfl)) rfl ?_
                    refine X_istore_n (ls' := [some (.ref (wA w (x))), some (.int (a1)), some (.int (S)), some (.int (nI (tlT S (j)))), some (.int (foB (tlT S) tlC 7 (j))), some (.int (nI (j))), some (.int (nI ((j) / (21)))), some (.int (nI ((j) % (21)))), some (.int (nI (tlT S (j))))]) C 3 (D (102, .istore_n 3, 1) (mg 53 rfl)) rfl (Nat.le_of_ble_eq_true rfl) rfl ?_
                    refine X_bipush (v := nI (100)) C (D (103, .bipush 100, 2) (mg 54 rfl)) (by decide) ?_
                    refine X_iload C (D (105, .iload 6, 2) (mg 55 rfl)) rfl ?_
                    refine X_imul C (D (107, .imul, 1) (mg 56 rfl)) ?_
                    refine X_ti (y := nI ((100) * ((j) / (21)))) (pk_mul (100) ((j) / (21))) ?_
                    refine X_iload C (D (108, .iload 7, 2) (mg 57 rfl)) rfl ?_
                    refine X_iadd C (D (110, .iadd, 1) (mg 58 rfl)) ?_
                    refine X_ti (y := nI ((100) * ((j) / (21)) + (j) % (21))) (nI_add ((100) * ((j) / (21))) ((j) % (21))) ?_
                    refine X_istore (ls' := [some (.ref (wA w (x))), some (.int (a1)), some (.int (S)), some (.int (nI (tlT S (j)))), some (.int (nI ((100) * ((j) / (21)) + (j) % (21)))), some (.int (nI (j))), some (.int (nI ((j) / (21)))), some (.int (nI ((j) % (21)))), some (.int (nI (tlT S (j))))]) C (D (111, .istore 4, 2) (mg 59 rfl)) (Nat.le_of_ble_eq_true rfl) rfl ?_
                    refine X_iinc (v := nI (j + 1)) (ls' := [some (.ref (wA w (x))), some (.int (a1)), some (.int (S)), some (.int (nI (tlT S (j)))), some (.int (nI ((100) * ((j) / (21)) + (j) % (21)))), some (.int (nI (j + 1))), some (.int (nI ((j) / (21)))), some (.int (nI ((j) % (21)))), some (.int (nI (tlT S (j))))]) C (D (113, .iinc 5 1, 3) (mg 60 rfl)) rfl (nI_add (j) 1) rfl ?_
                    refine X_goto (tgt := 29) C (D (116, .goto (-87), 3) (mg 61 rfl)) (by decide) ?_
                    refine X_los (ls' := [some (.ref (wA w (x))), some (.int (a1)), some (.int (S)), some (.int (nI (tlT S (j)))), some (.int (nI ((100) * ((j) / (21)) + (j) % (21)))), some (.int (nI (j + 1))), none, none, none]) (by simp [lsub]) ?_
                    refine X_eq (ls' := [some (.ref (wA w (x))), some (.int (a1)), some (.int (S)), some (.int (nI (foF (tlT S) 7 (j + 1)))), some (.int (foB (tlT S) tlC 7 (j + 1))), some (.int (nI (j + 1))), none, none, none]) (st' := []) (h' := hp58) (g' := g) (by rw [show nI (tlT S (j)) = nI (foF (tlT S) 7 (j + 1)) from congrArg nI (foF_t (by omega)), show nI ((100) * ((j) / (21)) + (j) % (21)) = foB (tlT S) tlC 7 (j + 1) from (foB_t (C := tlC) (by omega))]) rfl rfl rfl ?_
                    exact ih29 (j + 1) (hp58) (by omega) (Or.inr hS0_) (fun q i z => by skip; exact hc58_1 q i z) (by omega)
                · skip
                  have q10 : (i8) < (6) := by have z : ¬ ((6) ≤ (i8)) := fun u => q10 ((nI_leI (a := (6)) (b := (i8)) (by omega) (by omega)).mpr u); omega
                  refine X_aload_n C 0 (D (65, .aload_n 0, 1) (mg 35 rfl)) rfl rfl ?_
                  refine X_get (v := .ref (wA w (x + 38))) C (x) 6 (by omega) hsx rfl rfl (by decide) inX7 fX7_45 rfl (D (66, .getfield 45, 3) (mg 36 rfl)) rfl ?_
                  refine X_iload C (D (69, .iload 8, 2) (mg 37 rfl)) rfl ?_
                  refine X_iload C (D (71, .iload 8, 2) (mg 38 rfl)) rfl ?_
                  refine X_iload C (D (73, .iload 6, 2) (mg 39 rfl)) rfl ?_
                  refine X_iload C (D (75, .iload 7, 2) (mg 40 rfl)) rfl ?_
                  refine X_cS (As := [.int (nI (i8)), .int (nI ((j) / (21))), .int (nI ((j) % (21)))]) (st := [.int (nI (i8)), .ref (wA w (x + 38))]) C (post := _) (ct_X3_stands hw (nI (i8)) (nI ((j) / (21))) (nI ((j) % (21))) hp58 g) kX7_194 (by decide) (by decide) rfl rfl (Nat.le_of_ble_eq_true rfl) (D (77, .invokestatic 194, 3) (mg 41 rfl)) rfl (fun v17 H15 G16 hv17 => ?_)
                  obtain ⟨rfl, rfl, rfl⟩ := hv17
                  show X k w _ 80 [some (.ref (wA w (x))), some (.int (a1)), some (.int (S)), some (.int (nI (foF (tlT S) 7 (j)))), some (.int (foB (tlT S) tlC 7 (j))), some (.int (nI (j))), some (.int (nI ((j) / (21)))), some (.int (nI ((j) % (21)))), some (.int (nI (i8)))] [.int (hiC (nI (i8)) (nI ((j) / (21))) (nI ((j) % (21)))), .int (nI (i8)), .ref (wA w (x + 38))] hp58 g
                  refine X_iast (j := i8) C (x + 38) (by omega) hsv (vp_in_nI (by omega) (by omega)) (D (80, .iastore, 1) (mg 42 rfl)) (nI_clamp (by omega)) ?_
                  refine X_iinc (v := nI (i8 + 1)) (ls' := [some (.ref (wA w (x))), some (.int (a1)), some (.int (S)), some (.int (nI (foF (tlT S) 7 (j)))), some (.int (foB (tlT S) tlC 7 (j))), some (.int (nI (j))), some (.int (nI ((j) / (21)))), some (.int (nI ((j) % (21)))), some (.int (nI (i8 + 1)))]) C (D (81, .iinc 8 1, 3) (mg 43 rfl)) rfl (nI_add (i8) 1) rfl ?_
                  refine X_goto (tgt := 58) C (D (84, .goto (-26), 3) (mg 44 rfl)) (by decide) ?_
                  refine X_eq (ls' := [some (.ref (wA w (x))), some (.int (a1)), some (.int (S)), some (.int (nI (foF (tlT S) 7 (j)))), some (.int (foB (tlT S) tlC 7 (j))), some (.int (nI (j))), some (.int (nI ((j) / (21)))), some (.int (nI ((j) % (21)))), some (.int (nI (i8 + 1)))]) (st' := []) (h' := (u2 hp58 (x + 38) (i8) (hiC (nI (i8)) (nI ((j) / (21))) (nI ((j) % (21)))))) (g' := g) rfl rfl rfl rfl ?_
                  exact ih58 (i8 + 1) ((u2 hp58 (x + 38) (i8) (hiC (nI (i8)) (nI ((j) / (21))) (nI ((j) % (21)))))) (by omega) (fun q i z => by rw [u2_ne _ _ _ _ (by omega)]; exact hc58_1 q i z) (al_s (fun k hk => (u2_i _ _ _ _ (by omega)).trans (hc58_2 k hk)) (u2_s _ _ _ _)) (by omega)
            refine X_eq (ls' := [some (.ref (wA w (x))), some (.int (a1)), some (.int (S)), some (.int (nI (foF (tlT S) 7 (j)))), some (.int (foB (tlT S) tlC 7 (j))), some (.int (nI (j))), some (.int (nI ((j) / (21)))), some (.int (nI ((j) % (21)))), some (.int (nI (0)))]) (st' := []) (h' := hp29) (g' := g) rfl rfl rfl rfl ?_
            exact lp58 _ (0) (hp29) (by omega) (fun q i z => by skip; exact hc29_2 q i z) (fun k hk => absurd hk (by omega)) (Nat.le_refl _)
    refine X_eq (ls' := [some (.ref (wA w (x))), some (.int (a1)), some (.int (S)), some (.int (nI (foF (tlT S) 7 (0)))), some (.int (foB (tlT S) tlC 7 (0))), some (.int (nI (0))), none, none, none]) (st' := []) (h' := h) (g' := g) rfl rfl rfl rfl ?_
    exact lp29 _ (0) (h) (by omega) (Or.inl rfl) (fun q i z => rfl) (Nat.le_refl _)
  · skip
    have q4 : ¬ (0 ≤ (a1).toInt ∧ (a1).toInt < ((25 : Nat) : Int)) := bz0.mp q4
    refine X_aload_n C 0 (D (9, .aload_n 0, 1) (mg 4 rfl)) rfl rfl ?_
    refine X_cV (As := []) (st := []) C (post := _) (x) (by omega) hsx rfl (ct_X7_refuseBad hw hC0 h g) kX7_57 (by decide) (by decide) rfl rfl (Nat.le_of_ble_eq_true rfl) (D (10, .invokevirtual 57, 3) (mg 5 rfl)) rfl (fun v20 H18 G19 hv20 => ?_)
    obtain ⟨rfl, rfl, rfl⟩ := hv20
    show X k w _ 13 [some (.ref (wA w (x))), some (.int (a1)), none, none, none, none, none, none, none] [.int ((-2 : Int32))] (rcH h (x) 9) g
    exact X_iret C (D (13, .ireturn, 1) (mg 6 rfl)) (by rw [← hPP]; exact ⟨fun z => absurd z (by omega), fun _ => ⟨rfl, rfl, rfl⟩⟩)
set_option maxHeartbeats 4000000 in
set_option maxRecDepth 100000 in
theorem cx_X7_ask {l : Launch} {w : Kw} (hw : wOk w) {x : Nat} (hC : shC w x) {nm : Nat} (hnm : nm ≤ 6) (h : xI) (g : xJ) (hma : h (x + 1) 5 = nI nm) : Ct l w yX7_ask cX7_ask 8 (some .int) 3 70 [.ref (wA w (x))] h g ((pL (loC akT akC 50 (dpB (fun kd => fK h x kd nm) 6)) (x + 38) h)) := by
  refine Ct_of (ls := [some (.ref (wA w (x))), none, none, none, none, none, none, none]) (by decide) hw (Nat.le_of_ble_eq_true rfl) rfl (fun k hkl C => ?_)
  have C : Cx k w cX7_ask RX7 8 (some .int) 3 70 := C
  have D := dtX7_ask
  subst hkl
  generalize hPP : ((pL (loC akT akC 50 (dpB (fun kd => fK h x kd nm) 6)) (x + 38) h)) = PP
  have hC0 := hC
  obtain ⟨hxn, hsx, hT, hsi, hTa, hTb, hsk, hNs, hY, hX, hsv⟩ := hC
  have hY2 := hY.1
  have hX2 := hX.1
  refine X_aload_n C 0 (D (0, .aload_n 0, 1) (mg 0 rfl)) rfl rfl ?_
  refine X_cV (As := []) (st := []) C (post := _) (x) (by omega) hsx rfl (cx_X7_harrowsThatFit hw hC0 (nm := nm) hnm h g hma) kX7_209 (by decide) (by decide) rfl rfl (Nat.le_of_ble_eq_true rfl) (D (1, .invokevirtual 209, 3) (mg 1 rfl)) rfl (fun v3 H1 G2 hv3 => ?_)
  obtain ⟨rfl, rfl, rfl⟩ := hv3
  obtain ⟨S, hS⟩ : ∃ S, S = dpB (fun kd => fK h x kd nm) 6 := ⟨_, rfl⟩
  rw [← hS]
  show X k w _ 4 [some (.ref (wA w (x))), none, none, none, none, none, none, none] [.int (S)] h g
  refine X_istore_n (ls' := [some (.ref (wA w (x))), some (.int (S)), none, none, none, none, none, none]) C 1 (D (4, .istore_n 1, 1) (mg 2 rfl)) rfl (Nat.le_of_ble_eq_true rfl) rfl ?_
  refine X_bipush (v := nI (7)) C (D (5, .bipush 7, 2) (mg 3 rfl)) (by decide) ?_
  refine X_istore_n (ls' := [some (.ref (wA w (x))), some (.int (S)), some (.int (nI (7))), none, none, none, none, none]) C 2 (D (7, .istore_n 2, 1) (mg 4 rfl)) rfl (Nat.le_of_ble_eq_true rfl) rfl ?_
  refine X_iconst (v := (-1 : Int32)) C (D (8, .iconst (-1), 1) (mg 5 rfl)) (by decide) ?_
  refine X_istore_n (ls' := [some (.ref (wA w (x))), some (.int (S)), some (.int (nI (7))), some (.int ((-1 : Int32))), none, none, none, none]) C 3 (D (9, .istore_n 3, 1) (mg 6 rfl)) rfl (Nat.le_of_ble_eq_true rfl) rfl ?_
  refine X_iconst (v := nI (0)) C (D (10, .iconst 0, 1) (mg 7 rfl)) (by decide) ?_
  refine X_istore (ls' := [some (.ref (wA w (x))), some (.int (S)), some (.int (nI (7))), some (.int ((-1 : Int32))), some (.int (nI (0))), none, none, none]) C (D (11, .istore 4, 2) (mg 8 rfl)) (Nat.le_of_ble_eq_true rfl) rfl ?_
  have lp13 : ∀ (nn13 : Nat) (j : Nat) (hp13 : xI), (j ≤ 50) → (j = 0 ∨ ¬ S = 0) → (∀ q i, q ≠ x + 38 → hp13 q i = h q i) → 51 - j ≤ nn13 → X k w (Zq k w (PP)) 13 [some (.ref (wA w (x))), some (.int (S)), some (.int (nI (foF (akT S) 7 (j)))), some (.int (foB (akT S) akC 7 (j))), some (.int (nI (j))), none, none, none] [] hp13 g := by
    intro nn13
    induction nn13 with
    | zero => intro j hp13 hc13_0 hc13_1 hc13_2 hz; exact absurd hz (by omega)
    | succ nn13 ih13 =>
      intro j hp13 hc13_0 hc13_1 hc13_2 hz13
      refine X_iload C (D (13, .iload 4, 2) (mg 9 rfl)) rfl ?_
      refine X_bipush (v := nI (50)) C (D (15, .bipush 50, 2) (mg 10 rfl)) (by decide) ?_
      refine X_icmp_ge (tgt := 101) C (D (17, .if_icmp .ge 84, 3) (mg 11 rfl)) (by decide) (fun q4 => ?_) (fun q4 => ?_)
      · skip
        have q4 : (j) ≥ (50) := by have z := (nI_leI (a := (50)) (b := (j)) (by omega) (by omega)).mp q4; omega
        refine X_iload_n C 3 (D (101, .iload_n 3, 1) (mg 54 rfl)) rfl rfl ?_
        exact X_iret C (D (102, .ireturn, 1) (mg 55 rfl)) (by rw [← hPP]; exact (by subst hS; exact ⟨(congrArg (fun z => some (Value.int z)) (by first | exact loC_1 hc13_1 (by omega) (by omega) | exact loC_0 hc13_1 (by assumption))).symm, fun q i z => hc13_2 q i z⟩))
      · skip
        have q4 : (j) < (50) := by have z : ¬ ((50) ≤ (j)) := fun u => q4 ((nI_leI (a := (50)) (b := (j)) (by omega) (by omega)).mpr u); omega
        refine X_iload_n C 1 (D (20, .iload_n 1, 1) (mg 12 rfl)) rfl rfl ?_
        refine X_if_eq (tgt := 101) C (D (21, .ifCond .eq 80, 3) (mg 13 rfl)) (by decide) (fun q5 => ?_) (fun q5 => ?_)
        · skip
          refine X_iload_n C 3 (D (101, .iload_n 3, 1) (mg 54 rfl)) rfl rfl ?_
          exact X_iret C (D (102, .ireturn, 1) (mg 55 rfl)) (by rw [← hPP]; exact (by subst hS; exact ⟨(congrArg (fun z => some (Value.int z)) (by first | exact loC_1 hc13_1 (by omega) (by omega) | exact loC_0 hc13_1 (by assumption))).symm, fun q i z => hc13_2 q i z⟩))
        · skip
          have hS0_ : ¬ S = 0 := q5
          refine X_iload C (D (24, .iload 4, 2) (mg 14 rfl)) rfl ?_
          refine X_bipush (v := nI (10)) C (D (26, .bipush 10, 2) (mg 15 rfl)) (by decide) ?_
          refine X_idiv C (D (28, .idiv, 1) (mg 16 rfl)) (by decide) ?_
          refine X_ti (y := nI ((j) / (10))) (pk_div (by omega) (by omega) (by omega)) ?_
          refine X_istore (ls' := [some (.ref (wA w (x))), some (.int (S)), some (.int (nI (foF (akT S) 7 (j)))), some (.int (foB (akT S) akC 7 (j))), some (.int (nI (j))), some (.int (nI ((j) / (10)))), none, none]) C (D (29, .istore 5, 2) (mg 17 rfl)) (Nat.le_of_ble_eq_true rfl) rfl ?_
          refine X_iload C (D (31, .iload 4, 2) (mg 18 rfl)) rfl ?_
          refine X_bipush (v := nI (10)) C (D (33, .bipush 10, 2) (mg 19 rfl)) (by decide) ?_
          refine X_irem C (D (35, .irem, 1) (mg 20 rfl)) (by decide) ?_
          refine X_ti (y := nI ((j) % (10))) (pk_rem (by omega) (by omega) (by omega)) ?_
          refine X_istore (ls' := [some (.ref (wA w (x))), some (.int (S)), some (.int (nI (foF (akT S) 7 (j)))), some (.int (foB (akT S) akC 7 (j))), some (.int (nI (j))), some (.int (nI ((j) / (10)))), some (.int (nI ((j) % (10)))), none]) C (D (36, .istore 6, 2) (mg 21 rfl)) (Nat.le_of_ble_eq_true rfl) rfl ?_
          refine X_iconst (v := nI (0)) C (D (38, .iconst 0, 1) (mg 22 rfl)) (by decide) ?_
          refine X_istore (ls' := [some (.ref (wA w (x))), some (.int (S)), some (.int (nI (foF (akT S) 7 (j)))), some (.int (foB (akT S) akC 7 (j))), some (.int (nI (j))), some (.int (nI ((j) / (10)))), some (.int (nI ((j) % (10)))), some (.int (nI (0)))]) C (D (39, .istore 7, 2) (mg 23 rfl)) (Nat.le_of_ble_eq_true rfl) rfl ?_
          have lp41 : ∀ (nn41 : Nat) (i8 : Nat) (hp41 : xI), (i8 ≤ 6) → (∀ q i, q ≠ x + 38 → hp41 q i = h q i) → (∀ k, k < i8 → hp41 (x + 38) k = deC (nI (k)) (nI (j % 10)) (nI (j / 10))) → 7 - i8 ≤ nn41 → X k w (Zq k w (PP)) 41 [some (.ref (wA w (x))), some (.int (S)), some (.int (nI (foF (akT S) 7 (j)))), some (.int (foB (akT S) akC 7 (j))), some (.int (nI (j))), some (.int (nI ((j) / (10)))), some (.int (nI ((j) % (10)))), some (.int (nI (i8)))] [] hp41 g := by
            intro nn41
            induction nn41 with
            | zero => intro i8 hp41 hc41_0 hc41_1 hc41_2 hz; exact absurd hz (by omega)
            | succ nn41 ih41 =>
              intro i8 hp41 hc41_0 hc41_1 hc41_2 hz41
              refine X_iload C (D (41, .iload 7, 2) (mg 24 rfl)) rfl ?_
              refine X_bipush (v := nI (6)) C (D (43, .bipush 6, 2) (mg 25 rfl)) (by decide) ?_
              refine X_icmp_ge (tgt := 70) C (D (45, .if_icmp .ge 25, 3) (mg 26 rfl)) (by decide) (fun q6 => ?_) (fun q6 => ?_)
              · skip
                have q6 : (i8) ≥ (6) := by have z := (nI_leI (a := (6)) (b := (i8)) (by omega) (by omega)).mp q6; omega
                refine X_aload_n C 0 (D (70, .aload_n 0, 1) (mg 37 rfl)) rfl rfl ?_
                refine X_iload_n C 1 (D (71, .iload_n 1, 1) (mg 38 rfl)) rfl rfl ?_
                refine X_cV (As := [.int (S)]) (st := []) C (post := _) (x) (by omega) hsx rfl (cx_X7_mostAlike hw hC0 (S) hp41 g) kX7_200 (by decide) (by decide) rfl rfl (Nat.le_of_ble_eq_true rfl) (D (72, .invokevirtual 200, 3) (mg 39 rfl)) rfl (fun v9 H7 G8 hv9 => ?_)
                obtain ⟨rfl, rfl, rfl⟩ := hv9
                show X k w _ 75 [some (.ref (wA w (x))), some (.int (S)), some (.int (nI (foF (akT S) 7 (j)))), some (.int (foB (akT S) akC 7 (j))), some (.int (nI (j))), some (.int (nI ((j) / (10)))), some (.int (nI ((j) % (10)))), some (.int (nI (i8)))] [.int (nI (mAl (S) (hp41 (x + 38)) 6))] hp41 g
                refine X_ti (y := nI (akT S (j))) (congrArg nI (mAl_c (fun k hk => hc41_2 k (by omega)) 6 (Nat.le_refl _))) ?_
                refine X_istore (ls' := [some (.ref (wA w (x))), some (.int (S)), some (.int (nI (foF (akT S) 7 (j)))), some (.int (foB (akT S) akC 7 (j))), some (.int (nI (j))), some (.int (nI ((j) / (10)))), some (.int (nI ((j) % (10)))), some (.int (nI (akT S (j))))]) C (D (75, .istore 7, 2) (mg 40 rfl)) (Nat.le_of_ble_eq_true rfl) rfl ?_
                have hb1_ : akT S j ≤ 6 := mAl_le _ _ _
                have hb2_ : foF (akT S) 7 j ≤ 7 := foF_le _
                refine X_iload C (D (77, .iload 7, 2) (mg 41 rfl)) rfl ?_
                refine X_iload_n C 2 (D (79, .iload_n 2, 1) (mg 42 rfl)) rfl rfl ?_
                refine X_icmp_ge (tgt := 95) C (D (80, .if_icmp .ge 15, 3) (mg 43 rfl)) (by decide) (fun q10 => ?_) (fun q10 => ?_)
                · skip
                  have q10 : (akT S (j)) ≥ (foF (akT S) 7 (j)) := by have z := (nI_leI (a := (foF (akT S) 7 (j))) (b := (akT S (j))) (by omega) (by omega)).mp q10; omega
                  refine X_iinc (v := nI (j + 1)) (ls' := [some (.ref (wA w (x))), some (.int (S)), some (.int (nI (foF (akT S) 7 (j)))), some (.int (foB (akT S) akC 7 (j))), some (.int (nI (j + 1))), some (.int (nI ((j) / (10)))), some (.int (nI ((j) % (10)))), some (.int (nI (akT S (j))))]) C (D (95, .iinc 4 1, 3) (mg 52 rfl)) rfl (nI_add (j) 1) rfl ?_
                  refine X_goto (tgt := 13) C (D (98, .goto (-85), 3) (mg 53 rfl)) (by decide) ?_
                  refine X_los (ls' := [some (.ref (wA w (x))), some (.int (S)), some (.int (nI (foF (akT S) 7 (j)))), some (.int (foB (akT S) akC 7 (j))), some (.int (nI (j + 1))), none, none, none]) (by simp [lsub]) ?_
                  refine X_eq (ls' := [some (.ref (wA w (x))), some (.int (S)), some (.int (nI (foF (akT S) 7 (j + 1)))), some (.int (foB (akT S) akC 7 (j + 1))), some (.int (nI (j + 1))), none, none, none]) (st' := []) (h' := hp41) (g' := g) (by rw [show nI (foF (akT S) 7 (j)) = nI (foF (akT S) 7 (j + 1)) from congrArg nI (foF_f (by omega)), show foB (akT S) akC 7 (j) = foB (akT S) akC 7 (j + 1) from (foB_f (by omega))]) rfl rfl rfl ?_
                  exact ih13 (j + 1) (hp41) (by omega) (Or.inr hS0_) (fun q i z => by skip; exact hc41_1 q i z) (by omega)
                · skip
                  have q10 : (akT S (j)) < (foF (akT S) 7 (j)) := by have z : ¬ ((foF (akT S) 7 (j)) ≤ (akT S (j))) := fun u => q10 ((nI_leI (a := (foF (akT S) 7 (j))) (b := (akT S (j))) (by omega) (by omega)).mpr u); omega
                  refine X_iload C (D (83, .iload 7, 2) (mg 44 rfl)) rfl ?_
                  refine X_istore_n (ls' := [some (.ref (wA w (x))), some (.int (S)), some (.int (nI (akT S (j)))), some (.int (foB (akT S) akC 7 (j))), some (.int (nI (j))), some (.int (nI ((j) / (10)))), some (.int (nI ((j) % (10)))), some (.int (nI (akT S (j))))]) C 2 (D (85, .istore_n 2, 1) (mg 45 rfl)) rfl (Nat.le_of_ble_eq_true rfl) rfl ?_
                  refine X_bipush (v := nI (10)) C (D (86, .bipush 10, 2) (mg 46 rfl)) (by decide) ?_
                  refine X_iload C (D (88, .iload 5, 2) (mg 47 rfl)) rfl ?_
                  refine X_imul C (D (90, .imul, 1) (mg 48 rfl)) ?_
                  refine X_ti (y := nI ((10) * ((j) / (10)))) (pk_mul (10) ((j) / (10))) ?_
                  refine X_iload C (D (91, .iload 6, 2) (mg 49 rfl)) rfl ?_
                  refine X_iadd C (D (93, .iadd, 1) (mg 50 rfl)) ?_
                  refine X_ti (y := nI ((10) * ((j) / (10)) + (j) % (10))) (nI_add ((10) * ((j) / (10))) ((j) % (10))) ?_
                  refine X_istore_n (ls' := [some (.ref (wA w (x))), some (.int (S)), some (.int (nI (akT S (j)))), some (.int (nI ((10) * ((j) / (10)) + (j) % (10)))), some (.int (nI (j))), some (.int (nI ((j) / (10)))), some (.int (nI ((j) % (10)))), some (.int (nI (akT S (j))))]) C 3 (D (94, .istore_n 3, 1) (mg 51 rfl)) rfl (Nat.le_of_ble_eq_true rfl) rfl ?_
                  refine X_iinc (v := nI (j + 1)) (ls' := [some (.ref (wA w (x))), some (.int (S)), some (.int (nI (akT S (j)))), some (.int (nI ((10) * ((j) / (10)) + (j) % (10)))), some (.int (nI (j + 1))), some (.int (nI ((j) / (10)))), some (.int (nI ((j) % (10)))), some (.int (nI (akT S (j))))]) C (D (95, .iinc 4 1, 3) (mg 52 rfl)) rfl (nI_add (j) 1) rfl ?_
                  refine X_goto (tgt := 13) C (D (98, .goto (-85), 3) (mg 53 rfl)) (by decide) ?_
                  refine X_los (ls' := [some (.ref (wA w (x))), some (.int (S)), some (.int (nI (akT S (j)))), some (.int (nI ((10) * ((j) / (10)) + (j) % (10)))), some (.int (nI (j + 1))), none, none, none]) (by simp [lsub]) ?_
                  refine X_eq (ls' := [some (.ref (wA w (x))), some (.int (S)), some (.int (nI (foF (akT S) 7 (j + 1)))), some (.int (foB (akT S) akC 7 (j + 1))), some (.int (nI (j + 1))), none, none, none]) (st' := []) (h' := hp41) (g' := g) (by rw [show nI (akT S (j)) = nI (foF (akT S) 7 (j + 1)) from congrArg nI (foF_t (by omega)), show nI ((10) * ((j) / (10)) + (j) % (10)) = foB (akT S) akC 7 (j + 1) from (foB_t (C := akC) (by omega))]) rfl rfl rfl ?_
                  exact ih13 (j + 1) (hp41) (by omega) (Or.inr hS0_) (fun q i z => by skip; exact hc41_1 q i z) (by omega)
              · skip
                have q6 : (i8) < (6) := by have z : ¬ ((6) ≤ (i8)) := fun u => q6 ((nI_leI (a := (6)) (b := (i8)) (by omega) (by omega)).mpr u); omega
                refine X_aload_n C 0 (D (48, .aload_n 0, 1) (mg 27 rfl)) rfl rfl ?_
                refine X_get (v := .ref (wA w (x + 38))) C (x) 6 (by omega) hsx rfl rfl (by decide) inX7 fX7_45 rfl (D (49, .getfield 45, 3) (mg 28 rfl)) rfl ?_
                refine X_iload C (D (52, .iload 7, 2) (mg 29 rfl)) rfl ?_
                refine X_iload C (D (54, .iload 7, 2) (mg 30 rfl)) rfl ?_
                refine X_iload C (D (56, .iload 6, 2) (mg 31 rfl)) rfl ?_
                refine X_iload C (D (58, .iload 5, 2) (mg 32 rfl)) rfl ?_
                refine X_cS (As := [.int (nI (i8)), .int (nI ((j) % (10))), .int (nI ((j) / (10)))]) (st := [.int (nI (i8)), .ref (wA w (x + 38))]) C (post := _) (ct_X0_dragsBy hw (nI (i8)) (nI ((j) % (10))) (nI ((j) / (10))) hp41 g) kX7_212 (by decide) (by decide) rfl rfl (Nat.le_of_ble_eq_true rfl) (D (60, .invokestatic 212, 3) (mg 33 rfl)) rfl (fun v13 H11 G12 hv13 => ?_)
                obtain ⟨rfl, rfl, rfl⟩ := hv13
                show X k w _ 63 [some (.ref (wA w (x))), some (.int (S)), some (.int (nI (foF (akT S) 7 (j)))), some (.int (foB (akT S) akC 7 (j))), some (.int (nI (j))), some (.int (nI ((j) / (10)))), some (.int (nI ((j) % (10)))), some (.int (nI (i8)))] [.int (deC (nI (i8)) (nI ((j) % (10))) (nI ((j) / (10)))), .int (nI (i8)), .ref (wA w (x + 38))] hp41 g
                refine X_iast (j := i8) C (x + 38) (by omega) hsv (vp_in_nI (by omega) (by omega)) (D (63, .iastore, 1) (mg 34 rfl)) (nI_clamp (by omega)) ?_
                refine X_iinc (v := nI (i8 + 1)) (ls' := [some (.ref (wA w (x))), some (.int (S)), some (.int (nI (foF (akT S) 7 (j)))), some (.int (foB (akT S) akC 7 (j))), some (.int (nI (j))), some (.int (nI ((j) / (10)))), some (.int (nI ((j) % (10)))), some (.int (nI (i8 + 1)))]) C (D (64, .iinc 7 1, 3) (mg 35 rfl)) rfl (nI_add (i8) 1) rfl ?_
                refine X_goto (tgt := 41) C (D (67, .goto (-26), 3) (mg 36 rfl)) (by decide) ?_
                refine X_eq (ls' := [some (.ref (wA w (x))), some (.int (S)), some (.int (nI (foF (akT S) 7 (j)))), some (.int (foB (akT S) akC 7 (j))), some (.int (nI (j))), some (.int (nI ((j) / (10)))), some (.int (nI ((j) % (10)))), some (.int (nI (i8 + 1)))]) (st' := []) (h' := (u2 hp41 (x + 38) (i8) (deC (nI (i8)) (nI ((j) % (10))) (nI ((j) / (10)))))) (g' := g) rfl rfl rfl rfl ?_
                exact ih41 (i8 + 1) ((u2 hp41 (x + 38) (i8) (deC (nI (i8)) (nI ((j) % (10))) (nI ((j) / (10)))))) (by omega) (fun q i z => by rw [u2_ne _ _ _ _ (by omega)]; exact hc41_1 q i z) (al_s (fun k hk => (u2_i _ _ _ _ (by omega)).trans (hc41_2 k hk)) (u2_s _ _ _ _)) (by omega)
          refine X_eq (ls' := [some (.ref (wA w (x))), some (.int (S)), some (.int (nI (foF (akT S) 7 (j)))), some (.int (foB (akT S) akC 7 (j))), some (.int (nI (j))), some (.int (nI ((j) / (10)))), some (.int (nI ((j) % (10)))), some (.int (nI (0)))]) (st' := []) (h' := hp13) (g' := g) rfl rfl rfl rfl ?_
          exact lp41 _ (0) (hp13) (by omega) (fun q i z => by skip; exact hc13_2 q i z) (fun k hk => absurd hk (by omega)) (Nat.le_refl _)
  refine X_eq (ls' := [some (.ref (wA w (x))), some (.int (S)), some (.int (nI (foF (akT S) 7 (0)))), some (.int (foB (akT S) akC 7 (0))), some (.int (nI (0))), none, none, none]) (st' := []) (h' := h) (g' := g) rfl rfl rfl rfl ?_
  exact lp13 _ (0) (h) (by omega) (Or.inl rfl) (fun q i z => rfl) (Nat.le_refl _)
theorem tlC_e {j i : Nat} (h : i < 21) : tlC (21 * j + i) = 100 * j + i := by unfold tlC; rw [show (21 * j + i) / 21 = j by omega, show (21 * j + i) % 21 = i by omega]
theorem akC_e {j i : Nat} (h : i < 10) : akC (10 * j + i) = 10 * j + i := by unfold akC; rw [show (10 * j + i) / 10 = j by omega, show (10 * j + i) % 10 = i by omega]
theorem tlT_e {S : Int32} {V : Nat → Int32} {j i : Nat} (h : i < 21) (H : ∀ k, k < 6 → V k = hiA (nI k) (nI j) (nI i)) : mAl S V 6 = tlT S (21 * j + i) := by
  unfold tlT
  rw [show (21 * j + i) / 21 = j by omega, show (21 * j + i) % 21 = i by omega]
  exact mAl_c (fun k hk => (H k hk).trans (hi_e hk _ _).symm) 6 (Nat.le_refl _)
theorem akT_e {S : Int32} {V : Nat → Int32} {j i : Nat} (h : i < 10) (H : ∀ k, k < 6 → V k = deA (nI k) (nI j) (nI i)) : mAl S V 6 = akT S (10 * j + i) := by
  unfold akT
  rw [show (10 * j + i) / 10 = j by omega, show (10 * j + i) % 10 = i by omega]
  exact mAl_c (fun k hk => (H k hk).trans (de_e hk _ _).symm) 6 (Nat.le_refl _)
set_option maxHeartbeats 4000000 in
set_option maxRecDepth 100000 in
theorem cx_X8_tell {l : Launch} {w : Kw} (hw : wOk w) {m : Nat} (hM : shM w m) (c : Int32) {n : Nat} (hn : n ≤ 5) (h : xI) (g : xJ) (hb : h (m + 1) 0 = nI n) : Ct l w yX8_tell cX8_tell 8 (some .int) 2 51 [.ref (wA w (m)), .int (c)] h g (pif (0 ≤ c.toInt ∧ c.toInt < 25) (pL (loM tlT tlC 210 (dpB (fun kd => ¬ alS h (m + 1) c kd n = 0) 6)) (m + 8) h) (px (some (.int (-2 : Int32))) (rfH h m 0) g)) := by
  refine Ct_of (ls := [some (.ref (wA w (m))), some (.int (c)), none, none, none, none, none, none]) (by decide) hw (Nat.le_of_ble_eq_true rfl) rfl (fun k hkl C => ?_)
  have C : Cx k w cX8_tell RX8 8 (some .int) 2 51 := C
  have D := dtX8_tell
  subst hkl
  generalize hPP : (pif (0 ≤ c.toInt ∧ c.toInt < 25) (pL (loM tlT tlC 210 (dpB (fun kd => ¬ alS h (m + 1) c kd n = 0) 6)) (m + 8) h) (px (some (.int (-2 : Int32))) (rfH h m 0) g)) = PP
  have hM0 := hM
  obtain ⟨hm, hsm, hs1, hs2, hs3, hs4, hs5, hs6, hs7, hs8, hs9, hs10, hs11⟩ := hM
  have hM := hM0
  refine X_iload_n C 1 (D (0, .iload_n 1, 1) (mg 0 rfl)) rfl rfl ?_
  refine X_cS (As := [.int (c)]) (st := []) C (post := _) (ct_X8_isCell hw (c) h g) kX8_72 (by decide) (by decide) rfl rfl (Nat.le_of_ble_eq_true rfl) (D (1, .invokestatic 72, 3) (mg 1 rfl)) rfl (fun v3 H1 G2 hv3 => ?_)
  obtain ⟨rfl, rfl, rfl⟩ := hv3
  show X k w _ 4 [some (.ref (wA w (m))), some (.int (c)), none, none, none, none, none, none] [.int (if 0 ≤ (c).toInt ∧ (c).toInt < 25 then 1 else 0)] h g
  refine X_if_ne (tgt := 14) C (D (4, .ifCond .ne 10, 3) (mg 2 rfl)) (by decide) (fun q4 => ?_) (fun q4 => ?_)
  · skip
    have q4 : (0 ≤ (c).toInt ∧ (c).toInt < 25) := bz1.mp q4
    refine X_aload_n C 0 (D (14, .aload_n 0, 1) (mg 7 rfl)) rfl rfl ?_
    refine X_iload_n C 1 (D (15, .iload_n 1, 1) (mg 8 rfl)) rfl rfl ?_
    refine X_cV (As := [.int (c)]) (st := []) C (post := _) (m) (by omega) hsm rfl (ct_X8_saidIn hw hM (c) (n := n) hn h g hb) kX8_188 (by decide) (by decide) rfl rfl (Nat.le_of_ble_eq_true rfl) (D (16, .invokevirtual 188, 3) (mg 9 rfl)) rfl (fun v7 H5 G6 hv7 => ?_)
    obtain ⟨rfl, rfl, rfl⟩ := hv7
    obtain ⟨S, hS⟩ : ∃ S, S = dpB (fun kd => ¬ alS h (m + 1) (c) kd n = 0) 6 := ⟨_, rfl⟩
    rw [← hS]
    show X k w _ 19 [some (.ref (wA w (m))), some (.int (c)), none, none, none, none, none, none] [.int (S)] h g
    refine X_istore_n (ls' := [some (.ref (wA w (m))), some (.int (c)), some (.int (S)), none, none, none, none, none]) C 2 (D (19, .istore_n 2, 1) (mg 10 rfl)) rfl (Nat.le_of_ble_eq_true rfl) rfl ?_
    refine X_iconst (v := (-1 : Int32)) C (D (20, .iconst (-1), 1) (mg 11 rfl)) (by decide) ?_
    refine X_istore_n (ls' := [some (.ref (wA w (m))), some (.int (c)), some (.int (S)), some (.int ((-1 : Int32))), none, none, none, none]) C 3 (D (21, .istore_n 3, 1) (mg 12 rfl)) rfl (Nat.le_of_ble_eq_true rfl) rfl ?_
    refine X_ldc C (D (22, .ldc 162, 2) (mg 13 rfl)) vX8_162 ?_
    refine X_ti (y := nI (1000000)) (by decide) ?_
    refine X_istore (ls' := [some (.ref (wA w (m))), some (.int (c)), some (.int (S)), some (.int ((-1 : Int32))), some (.int (nI (1000000))), none, none, none]) C (D (24, .istore 4, 2) (mg 14 rfl)) (Nat.le_of_ble_eq_true rfl) rfl ?_
    refine X_iconst (v := nI (0)) C (D (26, .iconst 0, 1) (mg 15 rfl)) (by decide) ?_
    refine X_istore (ls' := [some (.ref (wA w (m))), some (.int (c)), some (.int (S)), some (.int ((-1 : Int32))), some (.int (nI (1000000))), some (.int (nI (0))), none, none]) C (D (27, .istore 5, 2) (mg 16 rfl)) (Nat.le_of_ble_eq_true rfl) rfl ?_
    have lp29 : ∀ (nn29 : Nat) (j : Nat) (hp29 : xI), (j ≤ 10) → (j = 0 ∨ ¬ S ≤ 0) → (∀ q i, q ≠ m + 8 → hp29 q i = h q i) → 11 - j ≤ nn29 → X k w (Zq k w (PP)) 29 [some (.ref (wA w (m))), some (.int (c)), some (.int (S)), some (.int (foB (tlT S) tlC 1000000 (21 * (j)))), some (.int (nI (foF (tlT S) 1000000 (21 * (j))))), some (.int (nI (j))), none, none] [] hp29 g := by
      intro nn29
      induction nn29 with
      | zero => intro j hp29 hc29_0 hc29_1 hc29_2 hz; exact absurd hz (by omega)
      | succ nn29 ih29 =>
        intro j hp29 hc29_0 hc29_1 hc29_2 hz29
        refine X_iload C (D (29, .iload 5, 2) (mg 17 rfl)) rfl ?_
        refine X_bipush (v := nI (10)) C (D (31, .bipush 10, 2) (mg 18 rfl)) (by decide) ?_
        refine X_icmp_ge (tgt := 137) C (D (33, .if_icmp .ge 104, 3) (mg 19 rfl)) (by decide) (fun q8 => ?_) (fun q8 => ?_)
        · skip
          have q8 : (j) ≥ (10) := by have z := (nI_leI (a := (10)) (b := (j)) (by omega) (by omega)).mp q8; omega
          refine X_iload_n C 3 (D (137, .iload_n 3, 1) (mg 68 rfl)) rfl rfl ?_
          exact X_iret C (D (138, .ireturn, 1) (mg 69 rfl)) (by rw [← hPP]; exact (by subst hS; exact ⟨fun _ => ⟨(congrArg (fun z => some (Value.int z)) (by first | exact loM_1 (hc29_1.imp (fun u_ => by omega) (fun u_ => u_)) (by omega) (by omega) | exact loM_0 (hc29_1.imp (fun u_ => by omega) (fun u_ => u_)) (by assumption))).symm, fun q i z => hc29_2 q i z⟩, fun z => absurd (by omega) z⟩))
        · skip
          have q8 : (j) < (10) := by have z : ¬ ((10) ≤ (j)) := fun u => q8 ((nI_leI (a := (10)) (b := (j)) (by omega) (by omega)).mpr u); omega
          refine X_iload_n C 2 (D (36, .iload_n 2, 1) (mg 20 rfl)) rfl rfl ?_
          refine X_if_le (tgt := 137) C (D (37, .ifCond .le 100, 3) (mg 21 rfl)) (by decide) (fun q9 => ?_) (fun q9 => ?_)
          · skip
            refine X_iload_n C 3 (D (137, .iload_n 3, 1) (mg 68 rfl)) rfl rfl ?_
            exact X_iret C (D (138, .ireturn, 1) (mg 69 rfl)) (by rw [← hPP]; exact (by subst hS; exact ⟨fun _ => ⟨(congrArg (fun z => some (Value.int z)) (by first | exact loM_1 (hc29_1.imp (fun u_ => by omega) (fun u_ => u_)) (by omega) (by omega) | exact loM_0 (hc29_1.imp (fun u_ => by omega) (fun u_ => u_)) (by assumption))).symm, fun q i z => hc29_2 q i z⟩, fun z => absurd (by omega) z⟩))
          · skip
            have hS0_ : ¬ S ≤ 0 := q9
            refine X_iconst (v := nI (0)) C (D (40, .iconst 0, 1) (mg 22 rfl)) (by decide) ?_
            refine X_istore (ls' := [some (.ref (wA w (m))), some (.int (c)), some (.int (S)), some (.int (foB (tlT S) tlC 1000000 (21 * (j)))), some (.int (nI (foF (tlT S) 1000000 (21 * (j))))), some (.int (nI (j))), some (.int (nI (0))), none]) C (D (41, .istore 6, 2) (mg 23 rfl)) (Nat.le_of_ble_eq_true rfl) rfl ?_
            have lp43 : ∀ (nn43 : Nat) (i6 : Nat) (hp43 : xI), (i6 ≤ 21) → (∀ q i, q ≠ m + 8 → hp43 q i = h q i) → 22 - i6 ≤ nn43 → X k w (Zq k w (PP)) 43 [some (.ref (wA w (m))), some (.int (c)), some (.int (S)), some (.int (foB (tlT S) tlC 1000000 (21 * j + i6))), some (.int (nI (foF (tlT S) 1000000 (21 * j + i6)))), some (.int (nI (j))), some (.int (nI (i6))), none] [] hp43 g := by
              intro nn43
              induction nn43 with
              | zero => intro i6 hp43 hc43_0 hc43_1 hz; exact absurd hz (by omega)
              | succ nn43 ih43 =>
                intro i6 hp43 hc43_0 hc43_1 hz43
                refine X_iload C (D (43, .iload 6, 2) (mg 24 rfl)) rfl ?_
                refine X_bipush (v := nI (20)) C (D (45, .bipush 20, 2) (mg 25 rfl)) (by decide) ?_
                refine X_icmp_gt (tgt := 131) C (D (47, .if_icmp .gt 84, 3) (mg 26 rfl)) (by decide) (fun q10 => ?_) (fun q10 => ?_)
                · skip
                  have q10 : (i6) > (20) := by have z := (nI_ltI (a := (20)) (b := (i6)) (by omega) (by omega)).mp q10; omega
                  refine X_iinc (v := nI (j + 1)) (ls' := [some (.ref (wA w (m))), some (.int (c)), some (.int (S)), some (.int (foB (tlT S) tlC 1000000 (21 * j + i6))), some (.int (nI (foF (tlT S) 1000000 (21 * j + i6)))), some (.int (nI (j + 1))), some (.int (nI (i6))), none]) C (D (131, .iinc 5 1, 3) (mg 66 rfl)) rfl (nI_add (j) 1) rfl ?_
                  refine X_goto (tgt := 29) C (D (134, .goto (-105), 3) (mg 67 rfl)) (by decide) ?_
                  refine X_los (ls' := [some (.ref (wA w (m))), some (.int (c)), some (.int (S)), some (.int (foB (tlT S) tlC 1000000 (21 * j + i6))), some (.int (nI (foF (tlT S) 1000000 (21 * j + i6)))), some (.int (nI (j + 1))), none, none]) (by simp [lsub]) ?_
                  refine X_eq (ls' := [some (.ref (wA w (m))), some (.int (c)), some (.int (S)), some (.int (foB (tlT S) tlC 1000000 (21 * (j + 1)))), some (.int (nI (foF (tlT S) 1000000 (21 * (j + 1))))), some (.int (nI (j + 1))), none, none]) (st' := []) (h' := hp43) (g' := g) (by rw [show 21 * (j + 1) = 21 * j + i6 by omega]) rfl rfl rfl ?_
                  exact ih29 (j + 1) (hp43) (by omega) (Or.inr hS0_) hc43_1 (by omega)
                · skip
                  have q10 : (i6) ≤ (20) := by have z : ¬ ((20) < (i6)) := fun u => q10 ((nI_ltI (a := (20)) (b := (i6)) (by omega) (by omega)).mpr u); omega
                  refine X_iconst (v := nI (0)) C (D (50, .iconst 0, 1) (mg 27 rfl)) (by decide) ?_
                  refine X_istore (ls' := [some (.ref (wA w (m))), some (.int (c)), some (.int (S)), some (.int (foB (tlT S) tlC 1000000 (21 * j + i6))), some (.int (nI (foF (tlT S) 1000000 (21 * j + i6)))), some (.int (nI (j))), some (.int (nI (i6))), some (.int (nI (0)))]) C (D (51, .istore 7, 2) (mg 28 rfl)) (Nat.le_of_ble_eq_true rfl) rfl ?_
                  have lp53 : ∀ (nn53 : Nat) (i8 : Nat) (hp53 : xI), (i8 ≤ 6) → (∀ q i, q ≠ m + 8 → hp53 q i = h q i) → (∀ k, k < i8 → hp53 (m + 8) k = hiA (nI (k)) (nI j) (nI i6)) → 7 - i8 ≤ nn53 → X k w (Zq k w (PP)) 53 [some (.ref (wA w (m))), some (.int (c)), some (.int (S)), some (.int (foB (tlT S) tlC 1000000 (21 * j + i6))), some (.int (nI (foF (tlT S) 1000000 (21 * j + i6)))), some (.int (nI (j))), some (.int (nI (i6))), some (.int (nI (i8)))] [] hp53 g := by
                    intro nn53
                    induction nn53 with
                    | zero => intro i8 hp53 hc53_0 hc53_1 hc53_2 hz; exact absurd hz (by omega)
                    | succ nn53 ih53 =>
                      intro i8 hp53 hc53_0 hc53_1 hc53_2 hz53
                      refine X_iload C (D (53, .iload 7, 2) (mg 29 rfl)) rfl ?_
                      refine X_bipush (v := nI (6)) C (D (55, .bipush 6, 2) (mg 30 rfl)) (by decide) ?_
                      refine X_icmp_ge (tgt := 82) C (D (57, .if_icmp .ge 25, 3) (mg 31 rfl)) (by decide) (fun q11 => ?_) (fun q11 => ?_)
                      · skip
                        have q11 : (i8) ≥ (6) := by have z := (nI_leI (a := (6)) (b := (i8)) (by omega) (by omega)).mp q11; omega
                        refine X_aload_n C 0 (D (82, .aload_n 0, 1) (mg 42 rfl)) rfl rfl ?_
                        refine X_iload_n C 2 (D (83, .iload_n 2, 1) (mg 43 rfl)) rfl rfl ?_
                        refine X_cV (As := [.int (S)]) (st := []) C (post := _) (m) (by omega) hsm rfl (cx_X8_mostAlike hw hM (S) hp53 g) kX8_191 (by decide) (by decide) rfl rfl (Nat.le_of_ble_eq_true rfl) (D (84, .invokevirtual 191, 3) (mg 44 rfl)) rfl (fun v14 H12 G13 hv14 => ?_)
                        obtain ⟨rfl, rfl, rfl⟩ := hv14
                        show X k w _ 87 [some (.ref (wA w (m))), some (.int (c)), some (.int (S)), some (.int (foB (tlT S) tlC 1000000 (21 * j + i6))), some (.int (nI (foF (tlT S) 1000000 (21 * j + i6)))), some (.int (nI (j))), some (.int (nI (i6))), some (.int (nI (i8)))] [.int (nI (mAl (S) (hp53 (m + 8)) 6))] hp53 g
                        refine X_ti (y := nI (tlT S (21 * j + i6))) (congrArg nI (tlT_e (by omega) (fun k hk => hc53_2 k (by omega)))) ?_
                        refine X_istore (ls' := [some (.ref (wA w (m))), some (.int (c)), some (.int (S)), some (.int (foB (tlT S) tlC 1000000 (21 * j + i6))), some (.int (nI (foF (tlT S) 1000000 (21 * j + i6)))), some (.int (nI (j))), some (.int (nI (i6))), some (.int (nI (tlT S (21 * j + i6))))]) C (D (87, .istore 7, 2) (mg 45 rfl)) (Nat.le_of_ble_eq_true rfl) rfl ?_
                        have hb1_ : tlT S (21 * j + i6) ≤ 6 := mAl_le _ _ _
                        have hb2_ : foF (tlT S) 1000000 (21 * j + i6) ≤ 1000000 := foF_le _
                        refine X_iload C (D (89, .iload 7, 2) (mg 46 rfl)) rfl ?_
                        refine X_iload C (D (91, .iload 4, 2) (mg 47 rfl)) rfl ?_
                        refine X_icmp_ge (tgt := 107) C (D (93, .if_icmp .ge 14, 3) (mg 48 rfl)) (by decide) (fun q15 => ?_) (fun q15 => ?_)
                        · skip
                          have q15 : (tlT S (21 * j + i6)) ≥ (foF (tlT S) 1000000 (21 * j + i6)) := by have z := (nI_leI (a := (foF (tlT S) 1000000 (21 * j + i6))) (b := (tlT S (21 * j + i6))) (by omega) (by omega)).mp q15; omega
                          refine X_iload_n C 3 (D (107, .iload_n 3, 1) (mg 55 rfl)) rfl rfl ?_
                          refine X_istore_n (ls' := [some (.ref (wA w (m))), some (.int (c)), some (.int (S)), some (.int (foB (tlT S) tlC 1000000 (21 * j + i6))), some (.int (nI (foF (tlT S) 1000000 (21 * j + i6)))), some (.int (nI (j))), some (.int (nI (i6))), some (.int (nI (tlT S (21 * j + i6))))]) C 3 (D (108, .istore_n 3, 1) (mg 56 rfl)) rfl (Nat.le_of_ble_eq_true rfl) rfl ?_
                          refine X_iload C (D (109, .iload 7, 2) (mg 57 rfl)) rfl ?_
                          refine X_iload C (D (111, .iload 4, 2) (mg 58 rfl)) rfl ?_
                          refine X_icmp_ge (tgt := 121) C (D (113, .if_icmp .ge 8, 3) (mg 59 rfl)) (by decide) (fun q16 => ?_) (fun q16 => ?_)
                          · skip
                            have q16 : (tlT S (21 * j + i6)) ≥ (foF (tlT S) 1000000 (21 * j + i6)) := by have z := (nI_leI (a := (foF (tlT S) 1000000 (21 * j + i6))) (b := (tlT S (21 * j + i6))) (by omega) (by omega)).mp q16; omega
                            refine X_iload C (D (121, .iload 4, 2) (mg 62 rfl)) rfl ?_
                            refine X_istore (ls' := [some (.ref (wA w (m))), some (.int (c)), some (.int (S)), some (.int (foB (tlT S) tlC 1000000 (21 * j + i6))), some (.int (nI (foF (tlT S) 1000000 (21 * j + i6)))), some (.int (nI (j))), some (.int (nI (i6))), some (.int (nI (tlT S (21 * j + i6))))]) C (D (123, .istore 4, 2) (mg 63 rfl)) (Nat.le_of_ble_eq_true rfl) rfl ?_
                            refine X_iinc (v := nI (i6 + 1)) (ls' := [some (.ref (wA w (m))), some (.int (c)), some (.int (S)), some (.int (foB (tlT S) tlC 1000000 (21 * j + i6))), some (.int (nI (foF (tlT S) 1000000 (21 * j + i6)))), some (.int (nI (j))), some (.int (nI (i6 + 1))), some (.int (nI (tlT S (21 * j + i6))))]) C (D (125, .iinc 6 1, 3) (mg 64 rfl)) rfl (nI_add (i6) 1) rfl ?_
                            refine X_goto (tgt := 43) C (D (128, .goto (-85), 3) (mg 65 rfl)) (by decide) ?_
                            refine X_los (ls' := [some (.ref (wA w (m))), some (.int (c)), some (.int (S)), some (.int (foB (tlT S) tlC 1000000 (21 * j + i6))), some (.int (nI (foF (tlT S) 1000000 (21 * j + i6)))), some (.int (nI (j))), some (.int (nI (i6 + 1))), none]) (by simp [lsub]) ?_
                            refine X_eq (ls' := [some (.ref (wA w (m))), some (.int (c)), some (.int (S)), some (.int (foB (tlT S) tlC 1000000 (21 * j + (i6 + 1)))), some (.int (nI (foF (tlT S) 1000000 (21 * j + (i6 + 1))))), some (.int (nI (j))), some (.int (nI (i6 + 1))), none]) (st' := []) (h' := hp53) (g' := g) (by first | exact False.elim (by omega) | rw [show nI (foF (tlT S) 1000000 (21 * j + i6)) = nI (foF (tlT S) 1000000 (21 * j + (i6 + 1))) from congrArg nI (foF_f (n := 21 * j + i6) (by omega)), show foB (tlT S) tlC 1000000 (21 * j + i6) = foB (tlT S) tlC 1000000 (21 * j + (i6 + 1)) from (foB_f (n := 21 * j + i6) (by omega))]) rfl rfl rfl ?_
                            exact ih43 (i6 + 1) (hp53) (by omega) (fun q i z => by skip; exact hc53_1 q i z) (by omega)
                          · skip
                            have q16 : (tlT S (21 * j + i6)) < (foF (tlT S) 1000000 (21 * j + i6)) := by have z : ¬ ((foF (tlT S) 1000000 (21 * j + i6)) ≤ (tlT S (21 * j + i6))) := fun u => q16 ((nI_leI (a := (foF (tlT S) 1000000 (21 * j + i6))) (b := (tlT S (21 * j + i6))) (by omega) (by omega)).mpr u); omega
                            refine X_iload C (D (116, .iload 7, 2) (mg 60 rfl)) rfl ?_
                            refine X_goto (tgt := 123) C (D (118, .goto 5, 3) (mg 61 rfl)) (by decide) ?_
                            refine X_istore (ls' := [some (.ref (wA w (m))), some (.int (c)), some (.int (S)), some (.int (foB (tlT S) tlC 1000000 (21 * j + i6))), some (.int (nI (tlT S (21 * j + i6)))), some (.int (nI (j))), some (.int (nI (i6))), some (.int (nI (tlT S (21 * j + i6))))]) C (D (123, .istore 4, 2) (mg 63 rfl)) (Nat.le_of_ble_eq_true rfl) rfl ?_
                            refine X_iinc (v := nI (i6 + 1)) (ls' := [some (.ref (wA w (m))), some (.int (c)), some (.int (S)), some (.int (foB (tlT S) tlC 1000000 (21 * j + i6))), some (.int (nI (tlT S (21 * j + i6)))), some (.int (nI (j))), some (.int (nI (i6 + 1))), some (.int (nI (tlT S (21 * j + i6))))]) C (D (125, .iinc 6 1, 3) (mg 64 rfl)) rfl (nI_add (i6) 1) rfl ?_
                            refine X_goto (tgt := 43) C (D (128, .goto (-85), 3) (mg 65 rfl)) (by decide) ?_
                            refine X_los (ls' := [some (.ref (wA w (m))), some (.int (c)), some (.int (S)), some (.int (foB (tlT S) tlC 1000000 (21 * j + i6))), some (.int (nI (tlT S (21 * j + i6)))), some (.int (nI (j))), some (.int (nI (i6 + 1))), none]) (by simp [lsub]) ?_
                            refine X_eq (ls' := [some (.ref (wA w (m))), some (.int (c)), some (.int (S)), some (.int (foB (tlT S) tlC 1000000 (21 * j + (i6 + 1)))), some (.int (nI (foF (tlT S) 1000000 (21 * j + (i6 + 1))))), some (.int (nI (j))), some (.int (nI (i6 + 1))), none]) (st' := []) (h' := hp53) (g' := g) (by first | exact False.elim (by omega) | rw [show nI (tlT S (21 * j + i6)) = nI (foF (tlT S) 1000000 (21 * j + (i6 + 1))) from congrArg nI (foF_t (n := 21 * j + i6) (by omega)), show foB (tlT S) tlC 1000000 (21 * j + i6) = foB (tlT S) tlC 1000000 (21 * j + (i6 + 1)) from (foB_f (n := 21 * j + i6) (by omega))]) rfl rfl rfl ?_
                            exact ih43 (i6 + 1) (hp53) (by omega) (fun q i z => by skip; exact hc53_1 q i z) (by omega)
                        · skip
                          have q15 : (tlT S (21 * j + i6)) < (foF (tlT S) 1000000 (21 * j + i6)) := by have z : ¬ ((foF (tlT S) 1000000 (21 * j + i6)) ≤ (tlT S (21 * j + i6))) := fun u => q15 ((nI_leI (a := (foF (tlT S) 1000000 (21 * j + i6))) (b := (tlT S (21 * j + i6))) (by omega) (by omega)).mpr u); omega
                          refine X_bipush (v := nI (100)) C (D (96, .bipush 100, 2) (mg 49 rfl)) (by decide) ?_
                          refine X_iload C (D (98, .iload 5, 2) (mg 50 rfl)) rfl ?_
                          refine X_imul C (D (100, .imul, 1) (mg 51 rfl)) ?_
                          refine X_ti (y := nI ((100) * (j))) (pk_mul (100) (j)) ?_
                          refine X_iload C (D (101, .iload 6, 2) (mg 52 rfl)) rfl ?_
                          refine X_iadd C (D (103, .iadd, 1) (mg 53 rfl)) ?_
                          refine X_ti (y := nI ((100) * (j) + i6)) (nI_add ((100) * (j)) (i6)) ?_
                          refine X_goto (tgt := 108) C (D (104, .goto 4, 3) (mg 54 rfl)) (by decide) ?_
                          refine X_istore_n (ls' := [some (.ref (wA w (m))), some (.int (c)), some (.int (S)), some (.int (nI ((100) * (j) + i6))), some (.int (nI (foF (tlT S) 1000000 (21 * j + i6)))), some (.int (nI (j))), some (.int (nI (i6))), some (.int (nI (tlT S (21 * j + i6))))]) C 3 (D (108, .istore_n 3, 1) (mg 56 rfl)) rfl (Nat.le_of_ble_eq_true rfl) rfl ?_
                          refine X_iload C (D (109, .iload 7, 2) (mg 57 rfl)) rfl ?_
                          refine X_iload C (D (111, .iload 4, 2) (mg 58 rfl)) rfl ?_
                          refine X_icmp_ge (tgt := 121) C (D (113, .if_icmp .ge 8, 3) (mg 59 rfl)) (by decide) (fun q17 => ?_) (fun q17 => ?_)
                          · skip
                            have q17 : (tlT S (21 * j + i6)) ≥ (foF (tlT S) 1000000 (21 * j + i6)) := by have z := (nI_leI (a := (foF (tlT S) 1000000 (21 * j + i6))) (b := (tlT S (21 * j + i6))) (by omega) (by omega)).mp q17; omega
                            refine X_iload C (D (121, .iload 4, 2) (mg 62 rfl)) rfl ?_
                            refine X_istore (ls' := [some (.ref (wA w (m))), some (.int (c)), some (.int (S)), some (.int (nI ((100) * (j) + i6))), some (.int (nI (foF (tlT S) 1000000 (21 * j + i6)))), some (.int (nI (j))), some (.int (nI (i6))), some (.int (nI (tlT S (21 * j + i6))))]) C (D (123, .istore 4, 2) (mg 63 rfl)) (Nat.le_of_ble_eq_true rfl) rfl ?_
                            refine X_iinc (v := nI (i6 + 1)) (ls' := [some (.ref (wA w (m))), some (.int (c)), some (.int (S)), some (.int (nI ((100) * (j) + i6))), some (.int (nI (foF (tlT S) 1000000 (21 * j + i6)))), some (.int (nI (j))), some (.int (nI (i6 + 1))), some (.int (nI (tlT S (21 * j + i6))))]) C (D (125, .iinc 6 1, 3) (mg 64 rfl)) rfl (nI_add (i6) 1) rfl ?_
                            refine X_goto (tgt := 43) C (D (128, .goto (-85), 3) (mg 65 rfl)) (by decide) ?_
                            refine X_los (ls' := [some (.ref (wA w (m))), some (.int (c)), some (.int (S)), some (.int (nI ((100) * (j) + i6))), some (.int (nI (foF (tlT S) 1000000 (21 * j + i6)))), some (.int (nI (j))), some (.int (nI (i6 + 1))), none]) (by simp [lsub]) ?_
                            refine X_eq (ls' := [some (.ref (wA w (m))), some (.int (c)), some (.int (S)), some (.int (foB (tlT S) tlC 1000000 (21 * j + (i6 + 1)))), some (.int (nI (foF (tlT S) 1000000 (21 * j + (i6 + 1))))), some (.int (nI (j))), some (.int (nI (i6 + 1))), none]) (st' := []) (h' := hp53) (g' := g) (by first | exact False.elim (by omega) | rw [show nI (foF (tlT S) 1000000 (21 * j + i6)) = nI (foF (tlT S) 1000000 (21 * j + (i6 + 1))) from congrArg nI (foF_f (n := 21 * j + i6) (by omega)), show nI ((100) * (j) + i6) = foB (tlT S) tlC 1000000 (21 * j + (i6 + 1)) from (congrArg nI (tlC_e (by omega)).symm).trans (foB_t (C := tlC) (n := 21 * j + i6) (by omega))]) rfl rfl rfl ?_
                            exact ih43 (i6 + 1) (hp53) (by omega) (fun q i z => by skip; exact hc53_1 q i z) (by omega)
                          · skip
                            have q17 : (tlT S (21 * j + i6)) < (foF (tlT S) 1000000 (21 * j + i6)) := by have z : ¬ ((foF (tlT S) 1000000 (21 * j + i6)) ≤ (tlT S (21 * j + i6))) := fun u => q17 ((nI_leI (a := (foF (tlT S) 1000000 (21 * j + i6))) (b := (tlT S (21 * j + i6))) (by omega) (by omega)).mpr u); omega
                            refine X_iload C (D (116, .iload 7, 2) (mg 60 rfl)) rfl ?_
                            refine X_goto (tgt := 123) C (D (118, .goto 5, 3) (mg 61 rfl)) (by decide) ?_
                            refine X_istore (ls' := [some (.ref (wA w (m))), some (.int (c)), some (.int (S)), some (.int (nI ((100) * (j) + i6))), some (.int (nI (tlT S (21 * j + i6)))), some (.int (nI (j))), some (.int (nI (i6))), some (.int (nI (tlT S (21 * j + i6))))]) C (D (123, .istore 4, 2) (mg 63 rfl)) (Nat.le_of_ble_eq_true rfl) rfl ?_
                            refine X_iinc (v := nI (i6 + 1)) (ls' := [some (.ref (wA w (m))), some (.int (c)), some (.int (S)), some (.int (nI ((100) * (j) + i6))), some (.int (nI (tlT S (21 * j + i6)))), some (.int (nI (j))), some (.int (nI (i6 + 1))), some (.int (nI (tlT S (21 * j + i6))))]) C (D (125, .iinc 6 1, 3) (mg 64 rfl)) rfl (nI_add (i6) 1) rfl ?_
                            refine X_goto (tgt := 43) C (D (128, .goto (-85), 3) (mg 65 rfl)) (by decide) ?_
                            refine X_los (ls' := [some (.ref (wA w (m))), some (.int (c)), some (.int (S)), some (.int (nI ((100) * (j) + i6))), some (.int (nI (tlT S (21 * j + i6)))), some (.int (nI (j))), some (.int (nI (i6 + 1))), none]) (by simp [lsub]) ?_
                            refine X_eq (ls' := [some (.ref (wA w (m))), some (.int (c)), some (.int (S)), some (.int (foB (tlT S) tlC 1000000 (21 * j + (i6 + 1)))), some (.int (nI (foF (tlT S) 1000000 (21 * j + (i6 + 1))))), some (.int (nI (j))), some (.int (nI (i6 + 1))), none]) (st' := []) (h' := hp53) (g' := g) (by first | exact False.elim (by omega) | rw [show nI (tlT S (21 * j + i6)) = nI (foF (tlT S) 1000000 (21 * j + (i6 + 1))) from congrArg nI (foF_t (n := 21 * j + i6) (by omega)), show nI ((100) * (j) + i6) = foB (tlT S) tlC 1000000 (21 * j + (i6 + 1)) from (congrArg nI (tlC_e (by omega)).symm).trans (foB_t (C := tlC) (n := 21 * j + i6) (by omega))]) rfl rfl rfl ?_
                            exact ih43 (i6 + 1) (hp53) (by omega) (fun q i z => by skip; exact hc53_1 q i z) (by omega)
                      · skip
                        have q11 : (i8) < (6) := by have z : ¬ ((6) ≤ (i8)) := fun u => q11 ((nI_leI (a := (6)) (b := (i8)) (by omega) (by omega)).mpr u); omega
                        refine X_aload_n C 0 (D (60, .aload_n 0, 1) (mg 32 rfl)) rfl rfl ?_
                        refine X_get (v := .ref (wA w (m + 8))) C (m) 9 (by omega) hsm rfl rfl (by decide) inX8 fX8_36 rfl (D (61, .getfield 36, 3) (mg 33 rfl)) rfl ?_
                        refine X_iload C (D (64, .iload 7, 2) (mg 34 rfl)) rfl ?_
                        refine X_iload C (D (66, .iload 7, 2) (mg 35 rfl)) rfl ?_
                        refine X_iload C (D (68, .iload 5, 2) (mg 36 rfl)) rfl ?_
                        refine X_iload C (D (70, .iload 6, 2) (mg 37 rfl)) rfl ?_
                        refine X_cS (As := [.int (nI (i8)), .int (nI (j)), .int (nI (i6))]) (st := [.int (nI (i8)), .ref (wA w (m + 8))]) C (post := _) (ct_X8_highAs hw (nI (i8)) (nI (j)) (nI (i6)) hp53 g) kX8_96 (by decide) (by decide) rfl rfl (Nat.le_of_ble_eq_true rfl) (D (72, .invokestatic 96, 3) (mg 38 rfl)) rfl (fun v20 H18 G19 hv20 => ?_)
                        obtain ⟨rfl, rfl, rfl⟩ := hv20
                        show X k w _ 75 [some (.ref (wA w (m))), some (.int (c)), some (.int (S)), some (.int (foB (tlT S) tlC 1000000 (21 * j + i6))), some (.int (nI (foF (tlT S) 1000000 (21 * j + i6)))), some (.int (nI (j))), some (.int (nI (i6))), some (.int (nI (i8)))] [.int (hiA (nI (i8)) (nI (j)) (nI (i6))), .int (nI (i8)), .ref (wA w (m + 8))] hp53 g
                        refine X_iast (j := i8) C (m + 8) (by omega) hs8 (vp_in_nI (by omega) (by omega)) (D (75, .iastore, 1) (mg 39 rfl)) (nI_clamp (by omega)) ?_
                        refine X_iinc (v := nI (i8 + 1)) (ls' := [some (.ref (wA w (m))), some (.int (c)), some (.int (S)), some (.int (foB (tlT S) tlC 1000000 (21 * j + i6))), some (.int (nI (foF (tlT S) 1000000 (21 * j + i6)))), some (.int (nI (j))), some (.int (nI (i6))), some (.int (nI (i8 + 1)))]) C (D (76, .iinc 7 1, 3) (mg 40 rfl)) rfl (nI_add (i8) 1) rfl ?_
                        refine X_goto (tgt := 53) C (D (79, .goto (-26), 3) (mg 41 rfl)) (by decide) ?_
                        refine X_eq (ls' := [some (.ref (wA w (m))), some (.int (c)), some (.int (S)), some (.int (foB (tlT S) tlC 1000000 (21 * j + i6))), some (.int (nI (foF (tlT S) 1000000 (21 * j + i6)))), some (.int (nI (j))), some (.int (nI (i6))), some (.int (nI (i8 + 1)))]) (st' := []) (h' := (u2 hp53 (m + 8) (i8) (hiA (nI (i8)) (nI (j)) (nI (i6))))) (g' := g) rfl rfl rfl rfl ?_
                        exact ih53 (i8 + 1) ((u2 hp53 (m + 8) (i8) (hiA (nI (i8)) (nI (j)) (nI (i6))))) (by omega) (fun q i z => by rw [u2_ne _ _ _ _ (by omega)]; exact hc53_1 q i z) (al_s (fun k hk => (u2_i _ _ _ _ (by omega)).trans (hc53_2 k hk)) (u2_s _ _ _ _)) (by omega)
                  refine X_eq (ls' := [some (.ref (wA w (m))), some (.int (c)), some (.int (S)), some (.int (foB (tlT S) tlC 1000000 (21 * j + i6))), some (.int (nI (foF (tlT S) 1000000 (21 * j + i6)))), some (.int (nI (j))), some (.int (nI (i6))), some (.int (nI (0)))]) (st' := []) (h' := hp43) (g' := g) rfl rfl rfl rfl ?_
                  exact lp53 _ (0) (hp43) (by omega) hc43_1 (fun k hk => absurd hk (by omega)) (Nat.le_refl _)
            refine X_eq (ls' := [some (.ref (wA w (m))), some (.int (c)), some (.int (S)), some (.int (foB (tlT S) tlC 1000000 (21 * j + 0))), some (.int (nI (foF (tlT S) 1000000 (21 * j + 0)))), some (.int (nI (j))), some (.int (nI (0))), none]) (st' := []) (h' := hp29) (g' := g) rfl rfl rfl rfl ?_
            exact lp43 _ (0) (hp29) (by omega) hc29_2 (Nat.le_refl _)
    refine X_eq (ls' := [some (.ref (wA w (m))), some (.int (c)), some (.int (S)), some (.int (foB (tlT S) tlC 1000000 (21 * (0)))), some (.int (nI (foF (tlT S) 1000000 (21 * (0))))), some (.int (nI (0))), none, none]) (st' := []) (h' := h) (g' := g) rfl rfl rfl rfl ?_
    exact lp29 _ (0) (h) (by omega) (Or.inl rfl) (fun q i z => rfl) (Nat.le_refl _)
  · skip
    have q4 : ¬ (0 ≤ (c).toInt ∧ (c).toInt < 25) := bz0.mp q4
    refine X_aload_n C 0 (D (7, .aload_n 0, 1) (mg 3 rfl)) rfl rfl ?_
    refine X_bipush (v := (-2 : Int32)) C (D (8, .bipush (-2), 2) (mg 4 rfl)) (by decide) ?_
    refine X_cV (As := [.int ((-2 : Int32))]) (st := []) C (post := _) (m) (by omega) hsm rfl (ct_X8_bad hw hM ((-2 : Int32)) h g) kX8_75 (by decide) (by decide) rfl rfl (Nat.le_of_ble_eq_true rfl) (D (10, .invokevirtual 75, 3) (mg 5 rfl)) rfl (fun v23 H21 G22 hv23 => ?_)
    obtain ⟨rfl, rfl, rfl⟩ := hv23
    show X k w _ 13 [some (.ref (wA w (m))), some (.int (c)), none, none, none, none, none, none] [.int ((-2 : Int32))] (rfH h m 0) g
    exact X_iret C (D (13, .ireturn, 1) (mg 6 rfl)) (by rw [← hPP]; exact ⟨fun z => absurd z (by omega), fun _ => ⟨rfl, rfl, rfl⟩⟩)
set_option maxHeartbeats 4000000 in
set_option maxRecDepth 100000 in
theorem cx_X8_ask {l : Launch} {w : Kw} (hw : wOk w) {m : Nat} (hM : shM w m) {n : Nat} (hn : n ≤ 6) (h : xI) (g : xJ) (hb : h (m + 1) 1 = nI n) : Ct l w yX8_ask cX8_ask 7 (some .int) 2 49 [.ref (wA w (m))] h g ((pL (loM akT akC 50 (dpB (fun kd => ¬ alK h (m + 1) kd n = 0) 6)) (m + 8) h)) := by
  refine Ct_of (ls := [some (.ref (wA w (m))), none, none, none, none, none, none]) (by decide) hw (Nat.le_of_ble_eq_true rfl) rfl (fun k hkl C => ?_)
  have C : Cx k w cX8_ask RX8 7 (some .int) 2 49 := C
  have D := dtX8_ask
  subst hkl
  generalize hPP : ((pL (loM akT akC 50 (dpB (fun kd => ¬ alK h (m + 1) kd n = 0) 6)) (m + 8) h)) = PP
  have hM0 := hM
  obtain ⟨hm, hsm, hs1, hs2, hs3, hs4, hs5, hs6, hs7, hs8, hs9, hs10, hs11⟩ := hM
  have hM := hM0
  refine X_aload_n C 0 (D (0, .aload_n 0, 1) (mg 0 rfl)) rfl rfl ?_
  refine X_cV (As := []) (st := []) C (post := _) (m) (by omega) hsm rfl (ct_X8_kindsOfHarrow hw hM (n := n) hn h g hb) kX8_194 (by decide) (by decide) rfl rfl (Nat.le_of_ble_eq_true rfl) (D (1, .invokevirtual 194, 3) (mg 1 rfl)) rfl (fun v3 H1 G2 hv3 => ?_)
  obtain ⟨rfl, rfl, rfl⟩ := hv3
  obtain ⟨S, hS⟩ : ∃ S, S = dpB (fun kd => ¬ alK h (m + 1) kd n = 0) 6 := ⟨_, rfl⟩
  rw [← hS]
  show X k w _ 4 [some (.ref (wA w (m))), none, none, none, none, none, none] [.int (S)] h g
  refine X_istore_n (ls' := [some (.ref (wA w (m))), some (.int (S)), none, none, none, none, none]) C 1 (D (4, .istore_n 1, 1) (mg 2 rfl)) rfl (Nat.le_of_ble_eq_true rfl) rfl ?_
  refine X_iconst (v := (-1 : Int32)) C (D (5, .iconst (-1), 1) (mg 3 rfl)) (by decide) ?_
  refine X_istore_n (ls' := [some (.ref (wA w (m))), some (.int (S)), some (.int ((-1 : Int32))), none, none, none, none]) C 2 (D (6, .istore_n 2, 1) (mg 4 rfl)) rfl (Nat.le_of_ble_eq_true rfl) rfl ?_
  refine X_ldc C (D (7, .ldc 162, 2) (mg 5 rfl)) vX8_162 ?_
  refine X_ti (y := nI (1000000)) (by decide) ?_
  refine X_istore_n (ls' := [some (.ref (wA w (m))), some (.int (S)), some (.int ((-1 : Int32))), some (.int (nI (1000000))), none, none, none]) C 3 (D (9, .istore_n 3, 1) (mg 6 rfl)) rfl (Nat.le_of_ble_eq_true rfl) rfl ?_
  refine X_iconst (v := nI (0)) C (D (10, .iconst 0, 1) (mg 7 rfl)) (by decide) ?_
  refine X_istore (ls' := [some (.ref (wA w (m))), some (.int (S)), some (.int ((-1 : Int32))), some (.int (nI (1000000))), some (.int (nI (0))), none, none]) C (D (11, .istore 4, 2) (mg 8 rfl)) (Nat.le_of_ble_eq_true rfl) rfl ?_
  have lp13 : ∀ (nn13 : Nat) (j : Nat) (hp13 : xI), (j ≤ 5) → (j = 0 ∨ ¬ S ≤ 0) → (∀ q i, q ≠ m + 8 → hp13 q i = h q i) → 6 - j ≤ nn13 → X k w (Zq k w (PP)) 13 [some (.ref (wA w (m))), some (.int (S)), some (.int (foB (akT S) akC 1000000 (10 * (j)))), some (.int (nI (foF (akT S) 1000000 (10 * (j))))), some (.int (nI (j))), none, none] [] hp13 g := by
    intro nn13
    induction nn13 with
    | zero => intro j hp13 hc13_0 hc13_1 hc13_2 hz; exact absurd hz (by omega)
    | succ nn13 ih13 =>
      intro j hp13 hc13_0 hc13_1 hc13_2 hz13
      refine X_iload C (D (13, .iload 4, 2) (mg 9 rfl)) rfl ?_
      refine X_iconst (v := nI (5)) C (D (15, .iconst 5, 1) (mg 10 rfl)) (by decide) ?_
      refine X_icmp_ge (tgt := 116) C (D (16, .if_icmp .ge 100, 3) (mg 11 rfl)) (by decide) (fun q4 => ?_) (fun q4 => ?_)
      · skip
        have q4 : (j) ≥ (5) := by have z := (nI_leI (a := (5)) (b := (j)) (by omega) (by omega)).mp q4; omega
        refine X_iload_n C 2 (D (116, .iload_n 2, 1) (mg 60 rfl)) rfl rfl ?_
        exact X_iret C (D (117, .ireturn, 1) (mg 61 rfl)) (by rw [← hPP]; exact (by subst hS; exact ⟨(congrArg (fun z => some (Value.int z)) (by first | exact loM_1 (hc13_1.imp (fun u_ => by omega) (fun u_ => u_)) (by omega) (by omega) | exact loM_0 (hc13_1.imp (fun u_ => by omega) (fun u_ => u_)) (by assumption))).symm, fun q i z => hc13_2 q i z⟩))
      · skip
        have q4 : (j) < (5) := by have z : ¬ ((5) ≤ (j)) := fun u => q4 ((nI_leI (a := (5)) (b := (j)) (by omega) (by omega)).mpr u); omega
        refine X_iload_n C 1 (D (19, .iload_n 1, 1) (mg 12 rfl)) rfl rfl ?_
        refine X_if_le (tgt := 116) C (D (20, .ifCond .le 96, 3) (mg 13 rfl)) (by decide) (fun q5 => ?_) (fun q5 => ?_)
        · skip
          refine X_iload_n C 2 (D (116, .iload_n 2, 1) (mg 60 rfl)) rfl rfl ?_
          exact X_iret C (D (117, .ireturn, 1) (mg 61 rfl)) (by rw [← hPP]; exact (by subst hS; exact ⟨(congrArg (fun z => some (Value.int z)) (by first | exact loM_1 (hc13_1.imp (fun u_ => by omega) (fun u_ => u_)) (by omega) (by omega) | exact loM_0 (hc13_1.imp (fun u_ => by omega) (fun u_ => u_)) (by assumption))).symm, fun q i z => hc13_2 q i z⟩))
        · skip
          have hS0_ : ¬ S ≤ 0 := q5
          refine X_iconst (v := nI (0)) C (D (23, .iconst 0, 1) (mg 14 rfl)) (by decide) ?_
          refine X_istore (ls' := [some (.ref (wA w (m))), some (.int (S)), some (.int (foB (akT S) akC 1000000 (10 * (j)))), some (.int (nI (foF (akT S) 1000000 (10 * (j))))), some (.int (nI (j))), some (.int (nI (0))), none]) C (D (24, .istore 5, 2) (mg 15 rfl)) (Nat.le_of_ble_eq_true rfl) rfl ?_
          have lp26 : ∀ (nn26 : Nat) (i6 : Nat) (hp26 : xI), (i6 ≤ 10) → (∀ q i, q ≠ m + 8 → hp26 q i = h q i) → 11 - i6 ≤ nn26 → X k w (Zq k w (PP)) 26 [some (.ref (wA w (m))), some (.int (S)), some (.int (foB (akT S) akC 1000000 (10 * j + i6))), some (.int (nI (foF (akT S) 1000000 (10 * j + i6)))), some (.int (nI (j))), some (.int (nI (i6))), none] [] hp26 g := by
            intro nn26
            induction nn26 with
            | zero => intro i6 hp26 hc26_0 hc26_1 hz; exact absurd hz (by omega)
            | succ nn26 ih26 =>
              intro i6 hp26 hc26_0 hc26_1 hz26
              refine X_iload C (D (26, .iload 5, 2) (mg 16 rfl)) rfl ?_
              refine X_bipush (v := nI (10)) C (D (28, .bipush 10, 2) (mg 17 rfl)) (by decide) ?_
              refine X_icmp_ge (tgt := 110) C (D (30, .if_icmp .ge 80, 3) (mg 18 rfl)) (by decide) (fun q6 => ?_) (fun q6 => ?_)
              · skip
                have q6 : (i6) ≥ (10) := by have z := (nI_leI (a := (10)) (b := (i6)) (by omega) (by omega)).mp q6; omega
                refine X_iinc (v := nI (j + 1)) (ls' := [some (.ref (wA w (m))), some (.int (S)), some (.int (foB (akT S) akC 1000000 (10 * j + i6))), some (.int (nI (foF (akT S) 1000000 (10 * j + i6)))), some (.int (nI (j + 1))), some (.int (nI (i6))), none]) C (D (110, .iinc 4 1, 3) (mg 58 rfl)) rfl (nI_add (j) 1) rfl ?_
                refine X_goto (tgt := 13) C (D (113, .goto (-100), 3) (mg 59 rfl)) (by decide) ?_
                refine X_los (ls' := [some (.ref (wA w (m))), some (.int (S)), some (.int (foB (akT S) akC 1000000 (10 * j + i6))), some (.int (nI (foF (akT S) 1000000 (10 * j + i6)))), some (.int (nI (j + 1))), none, none]) (by simp [lsub]) ?_
                refine X_eq (ls' := [some (.ref (wA w (m))), some (.int (S)), some (.int (foB (akT S) akC 1000000 (10 * (j + 1)))), some (.int (nI (foF (akT S) 1000000 (10 * (j + 1))))), some (.int (nI (j + 1))), none, none]) (st' := []) (h' := hp26) (g' := g) (by rw [show 10 * (j + 1) = 10 * j + i6 by omega]) rfl rfl rfl ?_
                exact ih13 (j + 1) (hp26) (by omega) (Or.inr hS0_) hc26_1 (by omega)
              · skip
                have q6 : (i6) < (10) := by have z : ¬ ((10) ≤ (i6)) := fun u => q6 ((nI_leI (a := (10)) (b := (i6)) (by omega) (by omega)).mpr u); omega
                refine X_iconst (v := nI (0)) C (D (33, .iconst 0, 1) (mg 19 rfl)) (by decide) ?_
                refine X_istore (ls' := [some (.ref (wA w (m))), some (.int (S)), some (.int (foB (akT S) akC 1000000 (10 * j + i6))), some (.int (nI (foF (akT S) 1000000 (10 * j + i6)))), some (.int (nI (j))), some (.int (nI (i6))), some (.int (nI (0)))]) C (D (34, .istore 6, 2) (mg 20 rfl)) (Nat.le_of_ble_eq_true rfl) rfl ?_
                have lp36 : ∀ (nn36 : Nat) (i8 : Nat) (hp36 : xI), (i8 ≤ 6) → (∀ q i, q ≠ m + 8 → hp36 q i = h q i) → (∀ k, k < i8 → hp36 (m + 8) k = deA (nI (k)) (nI j) (nI i6)) → 7 - i8 ≤ nn36 → X k w (Zq k w (PP)) 36 [some (.ref (wA w (m))), some (.int (S)), some (.int (foB (akT S) akC 1000000 (10 * j + i6))), some (.int (nI (foF (akT S) 1000000 (10 * j + i6)))), some (.int (nI (j))), some (.int (nI (i6))), some (.int (nI (i8)))] [] hp36 g := by
                  intro nn36
                  induction nn36 with
                  | zero => intro i8 hp36 hc36_0 hc36_1 hc36_2 hz; exact absurd hz (by omega)
                  | succ nn36 ih36 =>
                    intro i8 hp36 hc36_0 hc36_1 hc36_2 hz36
                    refine X_iload C (D (36, .iload 6, 2) (mg 21 rfl)) rfl ?_
                    refine X_bipush (v := nI (6)) C (D (38, .bipush 6, 2) (mg 22 rfl)) (by decide) ?_
                    refine X_icmp_ge (tgt := 65) C (D (40, .if_icmp .ge 25, 3) (mg 23 rfl)) (by decide) (fun q7 => ?_) (fun q7 => ?_)
                    · skip
                      have q7 : (i8) ≥ (6) := by have z := (nI_leI (a := (6)) (b := (i8)) (by omega) (by omega)).mp q7; omega
                      refine X_aload_n C 0 (D (65, .aload_n 0, 1) (mg 34 rfl)) rfl rfl ?_
                      refine X_iload_n C 1 (D (66, .iload_n 1, 1) (mg 35 rfl)) rfl rfl ?_
                      refine X_cV (As := [.int (S)]) (st := []) C (post := _) (m) (by omega) hsm rfl (cx_X8_mostAlike hw hM (S) hp36 g) kX8_191 (by decide) (by decide) rfl rfl (Nat.le_of_ble_eq_true rfl) (D (67, .invokevirtual 191, 3) (mg 36 rfl)) rfl (fun v10 H8 G9 hv10 => ?_)
                      obtain ⟨rfl, rfl, rfl⟩ := hv10
                      show X k w _ 70 [some (.ref (wA w (m))), some (.int (S)), some (.int (foB (akT S) akC 1000000 (10 * j + i6))), some (.int (nI (foF (akT S) 1000000 (10 * j + i6)))), some (.int (nI (j))), some (.int (nI (i6))), some (.int (nI (i8)))] [.int (nI (mAl (S) (hp36 (m + 8)) 6))] hp36 g
                      refine X_ti (y := nI (akT S (10 * j + i6))) (congrArg nI (akT_e (by omega) (fun k hk => hc36_2 k (by omega)))) ?_
                      refine X_istore (ls' := [some (.ref (wA w (m))), some (.int (S)), some (.int (foB (akT S) akC 1000000 (10 * j + i6))), some (.int (nI (foF (akT S) 1000000 (10 * j + i6)))), some (.int (nI (j))), some (.int (nI (i6))), some (.int (nI (akT S (10 * j + i6))))]) C (D (70, .istore 6, 2) (mg 37 rfl)) (Nat.le_of_ble_eq_true rfl) rfl ?_
                      have hb1_ : akT S (10 * j + i6) ≤ 6 := mAl_le _ _ _
                      have hb2_ : foF (akT S) 1000000 (10 * j + i6) ≤ 1000000 := foF_le _
                      refine X_iload C (D (72, .iload 6, 2) (mg 38 rfl)) rfl ?_
                      refine X_iload_n C 3 (D (74, .iload_n 3, 1) (mg 39 rfl)) rfl rfl ?_
                      refine X_icmp_ge (tgt := 89) C (D (75, .if_icmp .ge 14, 3) (mg 40 rfl)) (by decide) (fun q11 => ?_) (fun q11 => ?_)
                      · skip
                        have q11 : (akT S (10 * j + i6)) ≥ (foF (akT S) 1000000 (10 * j + i6)) := by have z := (nI_leI (a := (foF (akT S) 1000000 (10 * j + i6))) (b := (akT S (10 * j + i6))) (by omega) (by omega)).mp q11; omega
                        refine X_iload_n C 2 (D (89, .iload_n 2, 1) (mg 47 rfl)) rfl rfl ?_
                        refine X_istore_n (ls' := [some (.ref (wA w (m))), some (.int (S)), some (.int (foB (akT S) akC 1000000 (10 * j + i6))), some (.int (nI (foF (akT S) 1000000 (10 * j + i6)))), some (.int (nI (j))), some (.int (nI (i6))), some (.int (nI (akT S (10 * j + i6))))]) C 2 (D (90, .istore_n 2, 1) (mg 48 rfl)) rfl (Nat.le_of_ble_eq_true rfl) rfl ?_
                        refine X_iload C (D (91, .iload 6, 2) (mg 49 rfl)) rfl ?_
                        refine X_iload_n C 3 (D (93, .iload_n 3, 1) (mg 50 rfl)) rfl rfl ?_
                        refine X_icmp_ge (tgt := 102) C (D (94, .if_icmp .ge 8, 3) (mg 51 rfl)) (by decide) (fun q12 => ?_) (fun q12 => ?_)
                        · skip
                          have q12 : (akT S (10 * j + i6)) ≥ (foF (akT S) 1000000 (10 * j + i6)) := by have z := (nI_leI (a := (foF (akT S) 1000000 (10 * j + i6))) (b := (akT S (10 * j + i6))) (by omega) (by omega)).mp q12; omega
                          refine X_iload_n C 3 (D (102, .iload_n 3, 1) (mg 54 rfl)) rfl rfl ?_
                          refine X_istore_n (ls' := [some (.ref (wA w (m))), some (.int (S)), some (.int (foB (akT S) akC 1000000 (10 * j + i6))), some (.int (nI (foF (akT S) 1000000 (10 * j + i6)))), some (.int (nI (j))), some (.int (nI (i6))), some (.int (nI (akT S (10 * j + i6))))]) C 3 (D (103, .istore_n 3, 1) (mg 55 rfl)) rfl (Nat.le_of_ble_eq_true rfl) rfl ?_
                          refine X_iinc (v := nI (i6 + 1)) (ls' := [some (.ref (wA w (m))), some (.int (S)), some (.int (foB (akT S) akC 1000000 (10 * j + i6))), some (.int (nI (foF (akT S) 1000000 (10 * j + i6)))), some (.int (nI (j))), some (.int (nI (i6 + 1))), some (.int (nI (akT S (10 * j + i6))))]) C (D (104, .iinc 5 1, 3) (mg 56 rfl)) rfl (nI_add (i6) 1) rfl ?_
                          refine X_goto (tgt := 26) C (D (107, .goto (-81), 3) (mg 57 rfl)) (by decide) ?_
                          refine X_los (ls' := [some (.ref (wA w (m))), some (.int (S)), some (.int (foB (akT S) akC 1000000 (10 * j + i6))), some (.int (nI (foF (akT S) 1000000 (10 * j + i6)))), some (.int (nI (j))), some (.int (nI (i6 + 1))), none]) (by simp [lsub]) ?_
                          refine X_eq (ls' := [some (.ref (wA w (m))), some (.int (S)), some (.int (foB (akT S) akC 1000000 (10 * j + (i6 + 1)))), some (.int (nI (foF (akT S) 1000000 (10 * j + (i6 + 1))))), some (.int (nI (j))), some (.int (nI (i6 + 1))), none]) (st' := []) (h' := hp36) (g' := g) (by first | exact False.elim (by omega) | rw [show nI (foF (akT S) 1000000 (10 * j + i6)) = nI (foF (akT S) 1000000 (10 * j + (i6 + 1))) from congrArg nI (foF_f (n := 10 * j + i6) (by omega)), show foB (akT S) akC 1000000 (10 * j + i6) = foB (akT S) akC 1000000 (10 * j + (i6 + 1)) from (foB_f (n := 10 * j + i6) (by omega))]) rfl rfl rfl ?_
                          exact ih26 (i6 + 1) (hp36) (by omega) (fun q i z => by skip; exact hc36_1 q i z) (by omega)
                        · skip
                          have q12 : (akT S (10 * j + i6)) < (foF (akT S) 1000000 (10 * j + i6)) := by have z : ¬ ((foF (akT S) 1000000 (10 * j + i6)) ≤ (akT S (10 * j + i6))) := fun u => q12 ((nI_leI (a := (foF (akT S) 1000000 (10 * j + i6))) (b := (akT S (10 * j + i6))) (by omega) (by omega)).mpr u); omega
                          refine X_iload C (D (97, .iload 6, 2) (mg 52 rfl)) rfl ?_
                          refine X_goto (tgt := 103) C (D (99, .goto 4, 3) (mg 53 rfl)) (by decide) ?_
                          refine X_istore_n (ls' := [some (.ref (wA w (m))), some (.int (S)), some (.int (foB (akT S) akC 1000000 (10 * j + i6))), some (.int (nI (akT S (10 * j + i6)))), some (.int (nI (j))), some (.int (nI (i6))), some (.int (nI (akT S (10 * j + i6))))]) C 3 (D (103, .istore_n 3, 1) (mg 55 rfl)) rfl (Nat.le_of_ble_eq_true rfl) rfl ?_
                          refine X_iinc (v := nI (i6 + 1)) (ls' := [some (.ref (wA w (m))), some (.int (S)), some (.int (foB (akT S) akC 1000000 (10 * j + i6))), some (.int (nI (akT S (10 * j + i6)))), some (.int (nI (j))), some (.int (nI (i6 + 1))), some (.int (nI (akT S (10 * j + i6))))]) C (D (104, .iinc 5 1, 3) (mg 56 rfl)) rfl (nI_add (i6) 1) rfl ?_
                          refine X_goto (tgt := 26) C (D (107, .goto (-81), 3) (mg 57 rfl)) (by decide) ?_
                          refine X_los (ls' := [some (.ref (wA w (m))), some (.int (S)), some (.int (foB (akT S) akC 1000000 (10 * j + i6))), some (.int (nI (akT S (10 * j + i6)))), some (.int (nI (j))), some (.int (nI (i6 + 1))), none]) (by simp [lsub]) ?_
                          refine X_eq (ls' := [some (.ref (wA w (m))), some (.int (S)), some (.int (foB (akT S) akC 1000000 (10 * j + (i6 + 1)))), some (.int (nI (foF (akT S) 1000000 (10 * j + (i6 + 1))))), some (.int (nI (j))), some (.int (nI (i6 + 1))), none]) (st' := []) (h' := hp36) (g' := g) (by first | exact False.elim (by omega) | rw [show nI (akT S (10 * j + i6)) = nI (foF (akT S) 1000000 (10 * j + (i6 + 1))) from congrArg nI (foF_t (n := 10 * j + i6) (by omega)), show foB (akT S) akC 1000000 (10 * j + i6) = foB (akT S) akC 1000000 (10 * j + (i6 + 1)) from (foB_f (n := 10 * j + i6) (by omega))]) rfl rfl rfl ?_
                          exact ih26 (i6 + 1) (hp36) (by omega) (fun q i z => by skip; exact hc36_1 q i z) (by omega)
                      · skip
                        have q11 : (akT S (10 * j + i6)) < (foF (akT S) 1000000 (10 * j + i6)) := by have z : ¬ ((foF (akT S) 1000000 (10 * j + i6)) ≤ (akT S (10 * j + i6))) := fun u => q11 ((nI_leI (a := (foF (akT S) 1000000 (10 * j + i6))) (b := (akT S (10 * j + i6))) (by omega) (by omega)).mpr u); omega
                        refine X_bipush (v := nI (10)) C (D (78, .bipush 10, 2) (mg 41 rfl)) (by decide) ?_
                        refine X_iload C (D (80, .iload 4, 2) (mg 42 rfl)) rfl ?_
                        refine X_imul C (D (82, .imul, 1) (mg 43 rfl)) ?_
                        refine X_ti (y := nI ((10) * (j))) (pk_mul (10) (j)) ?_
                        refine X_iload C (D (83, .iload 5, 2) (mg 44 rfl)) rfl ?_
                        refine X_iadd C (D (85, .iadd, 1) (mg 45 rfl)) ?_
                        refine X_ti (y := nI ((10) * (j) + i6)) (nI_add ((10) * (j)) (i6)) ?_
                        refine X_goto (tgt := 90) C (D (86, .goto 4, 3) (mg 46 rfl)) (by decide) ?_
                        refine X_istore_n (ls' := [some (.ref (wA w (m))), some (.int (S)), some (.int (nI ((10) * (j) + i6))), some (.int (nI (foF (akT S) 1000000 (10 * j + i6)))), some (.int (nI (j))), some (.int (nI (i6))), some (.int (nI (akT S (10 * j + i6))))]) C 2 (D (90, .istore_n 2, 1) (mg 48 rfl)) rfl (Nat.le_of_ble_eq_true rfl) rfl ?_
                        refine X_iload C (D (91, .iload 6, 2) (mg 49 rfl)) rfl ?_
                        refine X_iload_n C 3 (D (93, .iload_n 3, 1) (mg 50 rfl)) rfl rfl ?_
                        refine X_icmp_ge (tgt := 102) C (D (94, .if_icmp .ge 8, 3) (mg 51 rfl)) (by decide) (fun q13 => ?_) (fun q13 => ?_)
                        · skip
                          have q13 : (akT S (10 * j + i6)) ≥ (foF (akT S) 1000000 (10 * j + i6)) := by have z := (nI_leI (a := (foF (akT S) 1000000 (10 * j + i6))) (b := (akT S (10 * j + i6))) (by omega) (by omega)).mp q13; omega
                          refine X_iload_n C 3 (D (102, .iload_n 3, 1) (mg 54 rfl)) rfl rfl ?_
                          refine X_istore_n (ls' := [some (.ref (wA w (m))), some (.int (S)), some (.int (nI ((10) * (j) + i6))), some (.int (nI (foF (akT S) 1000000 (10 * j + i6)))), some (.int (nI (j))), some (.int (nI (i6))), some (.int (nI (akT S (10 * j + i6))))]) C 3 (D (103, .istore_n 3, 1) (mg 55 rfl)) rfl (Nat.le_of_ble_eq_true rfl) rfl ?_
                          refine X_iinc (v := nI (i6 + 1)) (ls' := [some (.ref (wA w (m))), some (.int (S)), some (.int (nI ((10) * (j) + i6))), some (.int (nI (foF (akT S) 1000000 (10 * j + i6)))), some (.int (nI (j))), some (.int (nI (i6 + 1))), some (.int (nI (akT S (10 * j + i6))))]) C (D (104, .iinc 5 1, 3) (mg 56 rfl)) rfl (nI_add (i6) 1) rfl ?_
                          refine X_goto (tgt := 26) C (D (107, .goto (-81), 3) (mg 57 rfl)) (by decide) ?_
                          refine X_los (ls' := [some (.ref (wA w (m))), some (.int (S)), some (.int (nI ((10) * (j) + i6))), some (.int (nI (foF (akT S) 1000000 (10 * j + i6)))), some (.int (nI (j))), some (.int (nI (i6 + 1))), none]) (by simp [lsub]) ?_
                          refine X_eq (ls' := [some (.ref (wA w (m))), some (.int (S)), some (.int (foB (akT S) akC 1000000 (10 * j + (i6 + 1)))), some (.int (nI (foF (akT S) 1000000 (10 * j + (i6 + 1))))), some (.int (nI (j))), some (.int (nI (i6 + 1))), none]) (st' := []) (h' := hp36) (g' := g) (by first | exact False.elim (by omega) | rw [show nI (foF (akT S) 1000000 (10 * j + i6)) = nI (foF (akT S) 1000000 (10 * j + (i6 + 1))) from congrArg nI (foF_f (n := 10 * j + i6) (by omega)), show nI ((10) * (j) + i6) = foB (akT S) akC 1000000 (10 * j + (i6 + 1)) from (congrArg nI (akC_e (by omega)).symm).trans (foB_t (C := akC) (n := 10 * j + i6) (by omega))]) rfl rfl rfl ?_
                          exact ih26 (i6 + 1) (hp36) (by omega) (fun q i z => by skip; exact hc36_1 q i z) (by omega)
                        · skip
                          have q13 : (akT S (10 * j + i6)) < (foF (akT S) 1000000 (10 * j + i6)) := by have z : ¬ ((foF (akT S) 1000000 (10 * j + i6)) ≤ (akT S (10 * j + i6))) := fun u => q13 ((nI_leI (a := (foF (akT S) 1000000 (10 * j + i6))) (b := (akT S (10 * j + i6))) (by omega) (by omega)).mpr u); omega
                          refine X_iload C (D (97, .iload 6, 2) (mg 52 rfl)) rfl ?_
                          refine X_goto (tgt := 103) C (D (99, .goto 4, 3) (mg 53 rfl)) (by decide) ?_
                          refine X_istore_n (ls' := [some (.ref (wA w (m))), some (.int (S)), some (.int (nI ((10) * (j) + i6))), some (.int (nI (akT S (10 * j + i6)))), some (.int (nI (j))), some (.int (nI (i6))), some (.int (nI (akT S (10 * j + i6))))]) C 3 (D (103, .istore_n 3, 1) (mg 55 rfl)) rfl (Nat.le_of_ble_eq_true rfl) rfl ?_
                          refine X_iinc (v := nI (i6 + 1)) (ls' := [some (.ref (wA w (m))), some (.int (S)), some (.int (nI ((10) * (j) + i6))), some (.int (nI (akT S (10 * j + i6)))), some (.int (nI (j))), some (.int (nI (i6 + 1))), some (.int (nI (akT S (10 * j + i6))))]) C (D (104, .iinc 5 1, 3) (mg 56 rfl)) rfl (nI_add (i6) 1) rfl ?_
                          refine X_goto (tgt := 26) C (D (107, .goto (-81), 3) (mg 57 rfl)) (by decide) ?_
                          refine X_los (ls' := [some (.ref (wA w (m))), some (.int (S)), some (.int (nI ((10) * (j) + i6))), some (.int (nI (akT S (10 * j + i6)))), some (.int (nI (j))), some (.int (nI (i6 + 1))), none]) (by simp [lsub]) ?_
                          refine X_eq (ls' := [some (.ref (wA w (m))), some (.int (S)), some (.int (foB (akT S) akC 1000000 (10 * j + (i6 + 1)))), some (.int (nI (foF (akT S) 1000000 (10 * j + (i6 + 1))))), some (.int (nI (j))), some (.int (nI (i6 + 1))), none]) (st' := []) (h' := hp36) (g' := g) (by first | exact False.elim (by omega) | rw [show nI (akT S (10 * j + i6)) = nI (foF (akT S) 1000000 (10 * j + (i6 + 1))) from congrArg nI (foF_t (n := 10 * j + i6) (by omega)), show nI ((10) * (j) + i6) = foB (akT S) akC 1000000 (10 * j + (i6 + 1)) from (congrArg nI (akC_e (by omega)).symm).trans (foB_t (C := akC) (n := 10 * j + i6) (by omega))]) rfl rfl rfl ?_
                          exact ih26 (i6 + 1) (hp36) (by omega) (fun q i z => by skip; exact hc36_1 q i z) (by omega)
                    · skip
                      have q7 : (i8) < (6) := by have z : ¬ ((6) ≤ (i8)) := fun u => q7 ((nI_leI (a := (6)) (b := (i8)) (by omega) (by omega)).mpr u); omega
                      refine X_aload_n C 0 (D (43, .aload_n 0, 1) (mg 24 rfl)) rfl rfl ?_
                      refine X_get (v := .ref (wA w (m + 8))) C (m) 9 (by omega) hsm rfl rfl (by decide) inX8 fX8_36 rfl (D (44, .getfield 36, 3) (mg 25 rfl)) rfl ?_
                      refine X_iload C (D (47, .iload 6, 2) (mg 26 rfl)) rfl ?_
                      refine X_iload C (D (49, .iload 6, 2) (mg 27 rfl)) rfl ?_
                      refine X_iload C (D (51, .iload 4, 2) (mg 28 rfl)) rfl ?_
                      refine X_iload C (D (53, .iload 5, 2) (mg 29 rfl)) rfl ?_
                      refine X_cS (As := [.int (nI (i8)), .int (nI (j)), .int (nI (i6))]) (st := [.int (nI (i8)), .ref (wA w (m + 8))]) C (post := _) (ct_X8_deeperAs hw (nI (i8)) (nI (j)) (nI (i6)) hp36 g) kX8_100 (by decide) (by decide) rfl rfl (Nat.le_of_ble_eq_true rfl) (D (55, .invokestatic 100, 3) (mg 30 rfl)) rfl (fun v16 H14 G15 hv16 => ?_)
                      obtain ⟨rfl, rfl, rfl⟩ := hv16
                      show X k w _ 58 [some (.ref (wA w (m))), some (.int (S)), some (.int (foB (akT S) akC 1000000 (10 * j + i6))), some (.int (nI (foF (akT S) 1000000 (10 * j + i6)))), some (.int (nI (j))), some (.int (nI (i6))), some (.int (nI (i8)))] [.int (deA (nI (i8)) (nI (j)) (nI (i6))), .int (nI (i8)), .ref (wA w (m + 8))] hp36 g
                      refine X_iast (j := i8) C (m + 8) (by omega) hs8 (vp_in_nI (by omega) (by omega)) (D (58, .iastore, 1) (mg 31 rfl)) (nI_clamp (by omega)) ?_
                      refine X_iinc (v := nI (i8 + 1)) (ls' := [some (.ref (wA w (m))), some (.int (S)), some (.int (foB (akT S) akC 1000000 (10 * j + i6))), some (.int (nI (foF (akT S) 1000000 (10 * j + i6)))), some (.int (nI (j))), some (.int (nI (i6))), some (.int (nI (i8 + 1)))]) C (D (59, .iinc 6 1, 3) (mg 32 rfl)) rfl (nI_add (i8) 1) rfl ?_
                      refine X_goto (tgt := 36) C (D (62, .goto (-26), 3) (mg 33 rfl)) (by decide) ?_
                      refine X_eq (ls' := [some (.ref (wA w (m))), some (.int (S)), some (.int (foB (akT S) akC 1000000 (10 * j + i6))), some (.int (nI (foF (akT S) 1000000 (10 * j + i6)))), some (.int (nI (j))), some (.int (nI (i6))), some (.int (nI (i8 + 1)))]) (st' := []) (h' := (u2 hp36 (m + 8) (i8) (deA (nI (i8)) (nI (j)) (nI (i6))))) (g' := g) rfl rfl rfl rfl ?_
                      exact ih36 (i8 + 1) ((u2 hp36 (m + 8) (i8) (deA (nI (i8)) (nI (j)) (nI (i6))))) (by omega) (fun q i z => by rw [u2_ne _ _ _ _ (by omega)]; exact hc36_1 q i z) (al_s (fun k hk => (u2_i _ _ _ _ (by omega)).trans (hc36_2 k hk)) (u2_s _ _ _ _)) (by omega)
                refine X_eq (ls' := [some (.ref (wA w (m))), some (.int (S)), some (.int (foB (akT S) akC 1000000 (10 * j + i6))), some (.int (nI (foF (akT S) 1000000 (10 * j + i6)))), some (.int (nI (j))), some (.int (nI (i6))), some (.int (nI (0)))]) (st' := []) (h' := hp26) (g' := g) rfl rfl rfl rfl ?_
                exact lp36 _ (0) (hp26) (by omega) hc26_1 (fun k hk => absurd hk (by omega)) (Nat.le_refl _)
          refine X_eq (ls' := [some (.ref (wA w (m))), some (.int (S)), some (.int (foB (akT S) akC 1000000 (10 * j + 0))), some (.int (nI (foF (akT S) 1000000 (10 * j + 0)))), some (.int (nI (j))), some (.int (nI (0))), none]) (st' := []) (h' := hp13) (g' := g) rfl rfl rfl rfl ?_
          exact lp26 _ (0) (hp13) (by omega) hc13_2 (Nat.le_refl _)
  refine X_eq (ls' := [some (.ref (wA w (m))), some (.int (S)), some (.int (foB (akT S) akC 1000000 (10 * (0)))), some (.int (nI (foF (akT S) 1000000 (10 * (0))))), some (.int (nI (0))), none, none]) (st' := []) (h' := h) (g' := g) rfl rfl rfl rfl ?_
  exact lp13 _ (0) (h) (by omega) (Or.inl rfl) (fun q i z => rfl) (Nat.le_refl _)
