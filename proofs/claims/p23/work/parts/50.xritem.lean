/-! PHASE 2, THE REFERENCE: words, numbers, ITEMs, exact -/
def s6 (c1 c2 c3 c4 c5 c6 : Int32) (j : Nat) : Int32 := if j = 0 then c1 else if j = 1 then c2 else if j = 2 then c3 else if j = 3 then c4 else if j = 4 then c5 else c6
theorem s6_0 {c1 c2 c3 c4 c5 c6 : Int32} {j : Nat} (h : j = 0) : s6 c1 c2 c3 c4 c5 c6 j = c1 := by subst h; rfl
theorem s6_1 {c1 c2 c3 c4 c5 c6 : Int32} {j : Nat} (h : j = 1) : s6 c1 c2 c3 c4 c5 c6 j = c2 := by subst h; rfl
theorem s6_2 {c1 c2 c3 c4 c5 c6 : Int32} {j : Nat} (h : j = 2) : s6 c1 c2 c3 c4 c5 c6 j = c3 := by subst h; rfl
theorem s6_3 {c1 c2 c3 c4 c5 c6 : Int32} {j : Nat} (h : j = 3) : s6 c1 c2 c3 c4 c5 c6 j = c4 := by subst h; rfl
theorem s6_4 {c1 c2 c3 c4 c5 c6 : Int32} {j : Nat} (h : j = 4) : s6 c1 c2 c3 c4 c5 c6 j = c5 := by subst h; rfl
theorem s6_5 {c1 c2 c3 c4 c5 c6 : Int32} {j : Nat} (h : 5 ≤ j) : s6 c1 c2 c3 c4 c5 c6 j = c6 := by
  unfold s6; rw [if_neg (by omega), if_neg (by omega), if_neg (by omega), if_neg (by omega), if_neg (by omega)]
theorem isN_l {B : Nat → Int32} {n p A C : Nat} {v : Int32} (hC : A < 2147483648 ∧ C < 2147483648) (h : tT B n p = 2) (e : v = tV B n p) (q : (lN A).toInt ≤ (v.toInt64).toInt ∧ (v.toInt64).toInt ≤ (lN C).toInt) : isN B n p A C := by
  rw [i6, pk_lT (by omega), pk_lT (by omega)] at q
  rw [e] at q
  exact ⟨h, q.1, q.2⟩
theorem isN_m {B : Nat → Int32} {n p A C : Nat} {v : Int32} (hC : A < 2147483648 ∧ C < 2147483648) (h : tT B n p = 2) (e : v = tV B n p) (q : ¬ ((lN A).toInt ≤ (v.toInt64).toInt ∧ (v.toInt64).toInt ≤ (lN C).toInt)) : ¬ isN B n p A C := fun u_ => q (by
  rw [i6, pk_lT (by omega), pk_lT (by omega), e]
  exact ⟨u_.2.1, u_.2.2⟩)
theorem isN_2 {B : Nat → Int32} {n p A C : Nat} (h : tT B n p ≠ 2) : ¬ isN B n p A C := fun u_ => h u_.1
theorem isN_c {B : Nat → Int32} {n p : Nat} {v : Int32} (h : tT B n p = 2) (e : v = tV B n p) (q : 0 ≤ v.toInt ∧ v.toInt < 25) : isN B n p 0 24 := by
  rw [e] at q; exact ⟨h, by have := q.1; omega, by have := q.2; omega⟩
theorem isN_d {B : Nat → Int32} {n p : Nat} {v : Int32} (e : tT B n p = 2 → v = tV B n p) (q : ¬ (0 ≤ v.toInt ∧ v.toInt < 25)) : ¬ isN B n p 0 24 := fun u_ => q (by
  rw [e u_.1]; have a_ := u_.2.1; have b_ := u_.2.2; omega)
/-- the frame of an ITEM; how many WEEKS there are at most -/
def wB (h : xI) (q p : Nat) : Prop := ∃ v, h q 29 = nI v ∧ v ≤ 20 * p
def zA (h : xI) (q : Nat) : Prop := h q 0 = nI 0 ∧ h q 1 = nI 0 ∧ h q 2 = nI 0
def xM (B : Nat → Int32) (n m : Nat) (h : xI) (r : rT) (h' : xI) : Prop := fI m h h' ∧ kM B n r.2.1 m h' ∧ aOk h' m ∧ (r.1 = true → rM h' (m + 10) r.2.2 ∧ nOk r.2.2 ∧ wB h' (m + 10) r.2.1)
theorem xM_t {B : Nat → Int32} {n m P : Nat} {h h' : xI} {r : rT} {z : nS} (hr : r = (true, P, z)) (f : fI m h h') (k : kM B n P m h') (a : aOk h' m) (c : rM h' (m + 10) z) (o : nOk z) (b : wB h' (m + 10) P) : xM B n m h r h' := by
  subst hr; exact ⟨f, k, a, fun _ => ⟨c, o, b⟩⟩
theorem xM_f {B : Nat → Int32} {n m P : Nat} {h h' : xI} {r : rT} {z : nS} (hr : r = (false, P, z)) (f : fI m h h') (k : kM B n P m h') (a : aOk h' m) : xM B n m h r h' := by
  subst hr; exact ⟨f, k, a, fun w => by cases w⟩
theorem rM_q {h h' : xI} {q : Nat} {z : nS} (f : ∀ i, h' q i = h q i) (H : rM h q z) : rM h' q z := rM_k (fun i _ _ => f i) H
theorem wB_k {h h' : xI} {q p p' : Nat} (f : h' q 29 = h q 29) (hp : p ≤ p') (H : wB h q p) : wB h' q p' := by
  obtain ⟨v, e, hv⟩ := H
  exact ⟨v, f.trans e, by omega⟩
set_option maxHeartbeats 4000000 in
set_option maxRecDepth 100000 in
theorem cx_X8_goBehind {l : Launch} {w : Kw} (hw : wOk w) {m : Nat} (hM : shM w m) {B : Nat → Int32} {n p : Nat} (hn : n ≤ 150) (hp : p ≤ n) (h : xI) (g : xJ) (hb : h m 11 = nI n) (hB : ∀ i, i < n → h (m + 9) i = B i) (hk : kM B n p m h) : Ct l w yX8_goBehind cX8_goBehind 1 none 3 69 [.ref (wA w (m))] h g (pQv (fun h' => fL m h h' ∧ kM B n (tE B n p) m h')) := by
  refine Ct_of (ls := [some (.ref (wA w (m)))]) (by decide) hw (Nat.le_of_ble_eq_true rfl) rfl (fun k hkl C => ?_)
  have C : Cx k w cX8_goBehind RX8 1 none 3 69 := C
  have D := dtX8_goBehind
  subst hkl
  have hM0 := hM
  obtain ⟨hm, hsm, hs1, hs2, hs3, hs4, hs5, hs6, hs7, hs8, hs9, hs10, hs11⟩ := hM
  have hM := hM0
  obtain ⟨ht12, ht13, ht14, ht15⟩ := hk
  have hle0 : tE B n p ≤ n := tE_le hp
  have hse0 := tSE B n p
  have hty0 := tT_le B n p
  refine X_aload_n C 0 (D (0, .aload_n 0, 1) (mg 0 rfl)) rfl rfl ?_
  refine X_aload_n C 0 (D (1, .aload_n 0, 1) (mg 1 rfl)) rfl rfl ?_
  refine X_get (v := .int (h (m) 12)) C (m) 12 (by omega) hsm rfl rfl (by decide) inX8 fX8_250 rfl (D (2, .getfield 250, 3) (mg 2 rfl)) rfl ?_
  refine X_ti (y := nI (tS B n (p))) (ht12) ?_
  refine X_aload_n C 0 (D (5, .aload_n 0, 1) (mg 3 rfl)) rfl rfl ?_
  refine X_get (v := .int (h (m) 13)) C (m) 13 (by omega) hsm rfl rfl (by decide) inX8 fX8_253 rfl (D (6, .getfield 253, 3) (mg 4 rfl)) rfl ?_
  refine X_ti (y := nI (tE B n (p) - tS B n (p))) (ht13) ?_
  refine X_iadd C (D (9, .iadd, 1) (mg 5 rfl)) ?_
  refine X_ti (y := nI (tE B n (p))) (by rw [nI_add, show tS B n (p) + (tE B n (p) - tS B n (p)) = tE B n (p) by omega]) ?_
  refine X_cV (As := [.int (nI (tE B n (p)))]) (st := []) C (post := _) (m) (by omega) hsm rfl (cx_X8_lookAt hw hM (B := B) (n := n) (f0 := tE B n (p)) hn (by omega) h g (hb) hB) kX8_268 (by decide) (by decide) rfl rfl (Nat.le_of_ble_eq_true rfl) (D (10, .invokevirtual 268, 3) (mg 6 rfl)) rfl (fun v3 H1 G2 hv3 => ?_)
  obtain ⟨rfl, f4, ae5, be5, ce5, de5⟩ := hv3
  have hpe5 : tE B n (p) ≤ n := by omega
  have hle5 : tE B n (tE B n (p)) ≤ n := tE_le (by omega)
  have hse5 := tSE B n (tE B n (p))
  have hme5 := tT_le B n (tE B n (p))
  have hge5 := tE_ge B n (tE B n (p))
  show X k w _ 13 [some (.ref (wA w (m)))] [] H1 G2
  exact X_vret C (D (13, .return_, 1) (mg 7 rfl)) ⟨rfl, fun q i z => by rw [f4 _ _ (by omega)], ⟨(ae5), (be5), (ce5), de5⟩⟩
set_option maxHeartbeats 4000000 in
set_option maxRecDepth 100000 in
theorem cx_X8_spells {l : Launch} {w : Kw} (hw : wOk w) {m : Nat} (hM : shM w m) {B : Nat → Int32} {n p : Nat} (hn : n ≤ 150) (hp : p ≤ n) {z0 : Nat} (hz : z0 ≤ 6) (c1 c2 c3 c4 c5 c6 : Int32) {i : Nat} (hi : i < 5) (hz0 : z0 = sLen.getD i 0) (hl : ∀ j, j < sLen.getD i 0 → s6 c1 c2 c3 c4 c5 c6 j = sCh i j) (h : xI) (g : xJ) (hb : h m 11 = nI n) (hB : ∀ i, i < n → h (m + 9) i = B i) (hk : kM B n p m h) : Ct l w yX8_spells cX8_spells 10 (some .boolean) 0 0 [.ref (wA w (m)), .int (nI (z0)), .int (c1), .int (c2), .int (c3), .int (c4), .int (c5), .int (c6)] h g (pP (fun y => (y = 0 ∨ y = 1) ∧ (¬ y = 0 ↔ isW B n p i)) h g) := by
  refine Ct_of (ls := [some (.ref (wA w (m))), some (.int (nI (z0))), some (.int (c1)), some (.int (c2)), some (.int (c3)), some (.int (c4)), some (.int (c5)), some (.int (c6)), none, none]) (by decide) hw (Nat.le_of_ble_eq_true rfl) rfl (fun k hkl C => ?_)
  have C : Cx k w cX8_spells RX8 10 (some .boolean) 0 0 := C
  have D := dtX8_spells
  subst hkl
  have hM0 := hM
  obtain ⟨hm, hsm, hs1, hs2, hs3, hs4, hs5, hs6, hs7, hs8, hs9, hs10, hs11⟩ := hM
  have hM := hM0
  obtain ⟨ht12, ht13, ht14, ht15⟩ := hk
  have hle0 : tE B n p ≤ n := tE_le hp
  have hse0 := tSE B n p
  have hty0 := tT_le B n p
  refine X_aload_n C 0 (D (0, .aload_n 0, 1) (mg 0 rfl)) rfl rfl ?_
  refine X_get (v := .int (h (m) 14)) C (m) 14 (by omega) hsm rfl rfl (by decide) inX8 fX8_256 rfl (D (1, .getfield 256, 3) (mg 1 rfl)) rfl ?_
  refine X_ti (y := nI (tT B n (p))) (ht14) ?_
  refine X_iconst (v := nI (1)) C (D (4, .iconst 1, 1) (mg 2 rfl)) (by decide) ?_
  refine X_icmp_ne (tgt := 20) C (D (5, .if_icmp .ne 15, 3) (mg 3 rfl)) (by decide) (fun q1 => ?_) (fun q1 => ?_)
  · skip
    have q1 : (tT B n (p)) ≠ (1) := by have z : ¬ ((tT B n (p)) = (1)) := fun u => q1 ((nI_eq (a := (tT B n (p))) (b := (1)) (by omega) (by omega)).mpr u); omega
    refine X_iconst (v := nI (0)) C (D (20, .iconst 0, 1) (mg 10 rfl)) (by decide) ?_
    refine X_istore (ls' := [some (.ref (wA w (m))), some (.int (nI (z0))), some (.int (c1)), some (.int (c2)), some (.int (c3)), some (.int (c4)), some (.int (c5)), some (.int (c6)), some (.int (nI (0))), none]) C (D (21, .istore 8, 2) (mg 11 rfl)) (Nat.le_of_ble_eq_true rfl) rfl ?_
    refine X_iconst (v := nI (0)) C (D (23, .iconst 0, 1) (mg 12 rfl)) (by decide) ?_
    refine X_istore (ls' := [some (.ref (wA w (m))), some (.int (nI (z0))), some (.int (c1)), some (.int (c2)), some (.int (c3)), some (.int (c4)), some (.int (c5)), some (.int (c6)), some (.int (nI (0))), some (.int (nI (0)))]) C (D (24, .istore 9, 2) (mg 13 rfl)) (Nat.le_of_ble_eq_true rfl) rfl ?_
    have lp26 : ∀ (nn26 : Nat) (j : Nat) (b8 : Int32), (j ≤ z0) → (b8 = 0 ∨ b8 = 1) → (¬ b8 = 0 → tT B n p = 1 ∧ tE B n p - tS B n p = z0 ∧ ∀ k, k < j → B (tS B n p + k) = s6 c1 c2 c3 c4 c5 c6 k) → (b8 = 0 → ¬ isW B n p i) → 7 - j ≤ nn26 → X k w (Zq k w (pP (fun y => (y = 0 ∨ y = 1) ∧ (¬ y = 0 ↔ isW B n p i)) h g)) 26 [some (.ref (wA w (m))), some (.int (nI (z0))), some (.int (c1)), some (.int (c2)), some (.int (c3)), some (.int (c4)), some (.int (c5)), some (.int (c6)), some (.int (b8)), some (.int (nI (j)))] [] h g := by
      intro nn26
      induction nn26 with
      | zero => intro j b8 hc26_0 hc26_1 hc26_2 hc26_3 hz; exact absurd hz (by omega)
      | succ nn26 ih26 =>
        intro j b8 hc26_0 hc26_1 hc26_2 hc26_3 hz26
        refine X_iload C (D (26, .iload 9, 2) (mg 14 rfl)) rfl ?_
        refine X_iload_n C 1 (D (28, .iload_n 1, 1) (mg 15 rfl)) rfl rfl ?_
        refine X_icmp_ge (tgt := 119) C (D (29, .if_icmp .ge 90, 3) (mg 16 rfl)) (by decide) (fun q2 => ?_) (fun q2 => ?_)
        · skip
          have q2 : (j) ≥ (z0) := by have z := (nI_leI (a := (z0)) (b := (j)) (by omega) (by omega)).mp q2; omega
          refine X_iload C (D (119, .iload 8, 2) (mg 58 rfl)) rfl ?_
          exact X_zret C (D (121, .ireturn, 1) (mg 59 rfl)) (nb_01 hc26_1) ⟨⟨_, rfl, hc26_1, ⟨(by first | exact (fun u_ => absurd (by assumption) u_) | exact (fun u_ => ⟨(hc26_2 u_).1, (hc26_2 u_).2.1.trans hz0, fun k hk => ((hc26_2 u_).2.2 k (by omega)).trans (hl k hk)⟩)), fun u_ v_ => hc26_3 v_ u_⟩⟩, rfl, rfl⟩
        · skip
          have q2 : (j) < (z0) := by have z : ¬ ((z0) ≤ (j)) := fun u => q2 ((nI_leI (a := (z0)) (b := (j)) (by omega) (by omega)).mpr u); omega
          refine X_iload C (D (32, .iload 8, 2) (mg 17 rfl)) rfl ?_
          refine X_if_eq (tgt := 119) C (D (34, .ifCond .eq 85, 3) (mg 18 rfl)) (by decide) (fun q3 => ?_) (fun q3 => ?_)
          · skip
            refine X_iload C (D (119, .iload 8, 2) (mg 58 rfl)) rfl ?_
            exact X_zret C (D (121, .ireturn, 1) (mg 59 rfl)) (nb_01 hc26_1) ⟨⟨_, rfl, hc26_1, ⟨(by first | exact (fun u_ => absurd (by assumption) u_) | exact (fun u_ => ⟨(hc26_2 u_).1, (hc26_2 u_).2.1.trans hz0, fun k hk => ((hc26_2 u_).2.2 k (by omega)).trans (hl k hk)⟩)), fun u_ v_ => hc26_3 v_ u_⟩⟩, rfl, rfl⟩
          · skip
            have hq_ := hc26_2 (by assumption)
            have hq2_ := hq_.2.1
            refine X_aload_n C 0 (D (37, .aload_n 0, 1) (mg 19 rfl)) rfl rfl ?_
            refine X_get (v := .ref (wA w (m + 9))) C (m) 10 (by omega) hsm rfl rfl (by decide) inX8 fX8_39 rfl (D (38, .getfield 39, 3) (mg 20 rfl)) rfl ?_
            refine X_aload_n C 0 (D (41, .aload_n 0, 1) (mg 21 rfl)) rfl rfl ?_
            refine X_get (v := .int (h (m) 12)) C (m) 12 (by omega) hsm rfl rfl (by decide) inX8 fX8_250 rfl (D (42, .getfield 250, 3) (mg 22 rfl)) rfl ?_
            refine X_ti (y := nI (tS B n (p))) (ht12) ?_
            refine X_iload C (D (45, .iload 9, 2) (mg 23 rfl)) rfl ?_
            refine X_iadd C (D (47, .iadd, 1) (mg 24 rfl)) ?_
            refine X_ti (y := nI (tS B n (p) + j)) (nI_add (tS B n (p)) (j)) ?_
            refine X_iald (v := h (m + 9) (tS B n (p) + j)) C (m + 9) (by omega) hs9 (vp_in_nI (by omega) (by omega)) (D (48, .iaload, 1) (mg 25 rfl)) (by rw [nI_clamp (by omega)]) ?_
            refine X_iload C (D (49, .iload 9, 2) (mg 26 rfl)) rfl ?_
            refine X_if_ne (tgt := 58) C (D (51, .ifCond .ne 7, 3) (mg 27 rfl)) (by decide) (fun q4 => ?_) (fun q4 => ?_)
            · skip
              have q4 : (j) ≠ (0) := by have z : ¬ ((j) = (0)) := fun u => q4 ((nI_eq (a := (j)) (b := (0)) (by omega) (by omega)).mpr u); omega
              refine X_iload C (D (58, .iload 9, 2) (mg 30 rfl)) rfl ?_
              refine X_iconst (v := nI (1)) C (D (60, .iconst 1, 1) (mg 31 rfl)) (by decide) ?_
              refine X_icmp_ne (tgt := 68) C (D (61, .if_icmp .ne 7, 3) (mg 32 rfl)) (by decide) (fun q5 => ?_) (fun q5 => ?_)
              · skip
                have q5 : (j) ≠ (1) := by have z : ¬ ((j) = (1)) := fun u => q5 ((nI_eq (a := (j)) (b := (1)) (by omega) (by omega)).mpr u); omega
                refine X_iload C (D (68, .iload 9, 2) (mg 35 rfl)) rfl ?_
                refine X_iconst (v := nI (2)) C (D (70, .iconst 2, 1) (mg 36 rfl)) (by decide) ?_
                refine X_icmp_ne (tgt := 79) C (D (71, .if_icmp .ne 8, 3) (mg 37 rfl)) (by decide) (fun q6 => ?_) (fun q6 => ?_)
                · skip
                  have q6 : (j) ≠ (2) := by have z : ¬ ((j) = (2)) := fun u => q6 ((nI_eq (a := (j)) (b := (2)) (by omega) (by omega)).mpr u); omega
                  refine X_iload C (D (79, .iload 9, 2) (mg 40 rfl)) rfl ?_
                  refine X_iconst (v := nI (3)) C (D (81, .iconst 3, 1) (mg 41 rfl)) (by decide) ?_
                  refine X_icmp_ne (tgt := 90) C (D (82, .if_icmp .ne 8, 3) (mg 42 rfl)) (by decide) (fun q7 => ?_) (fun q7 => ?_)
                  · skip
                    have q7 : (j) ≠ (3) := by have z : ¬ ((j) = (3)) := fun u => q7 ((nI_eq (a := (j)) (b := (3)) (by omega) (by omega)).mpr u); omega
                    refine X_iload C (D (90, .iload 9, 2) (mg 45 rfl)) rfl ?_
                    refine X_iconst (v := nI (4)) C (D (92, .iconst 4, 1) (mg 46 rfl)) (by decide) ?_
                    refine X_icmp_ne (tgt := 101) C (D (93, .if_icmp .ne 8, 3) (mg 47 rfl)) (by decide) (fun q8 => ?_) (fun q8 => ?_)
                    · skip
                      have q8 : (j) ≠ (4) := by have z : ¬ ((j) = (4)) := fun u => q8 ((nI_eq (a := (j)) (b := (4)) (by omega) (by omega)).mpr u); omega
                      refine X_iload C (D (101, .iload 7, 2) (mg 50 rfl)) rfl ?_
                      refine X_icmp_ne (tgt := 110) C (D (103, .if_icmp .ne 7, 3) (mg 51 rfl)) (by decide) (fun q9 => ?_) (fun q9 => ?_)
                      · skip
                        have hlf_ : ¬ B (tS B n p + j) = s6 c1 c2 c3 c4 c5 c6 j := by rw [s6_5 (by omega)]; exact fun u_ => q9 ((hB _ (by omega)).trans u_)
                        refine X_iconst (v := nI (0)) C (D (110, .iconst 0, 1) (mg 54 rfl)) (by decide) ?_
                        refine X_istore (ls' := [some (.ref (wA w (m))), some (.int (nI (z0))), some (.int (c1)), some (.int (c2)), some (.int (c3)), some (.int (c4)), some (.int (c5)), some (.int (c6)), some (.int (nI (0))), some (.int (nI (j)))]) C (D (111, .istore 8, 2) (mg 55 rfl)) (Nat.le_of_ble_eq_true rfl) rfl ?_
                        refine X_iinc (v := nI (j + 1)) (ls' := [some (.ref (wA w (m))), some (.int (nI (z0))), some (.int (c1)), some (.int (c2)), some (.int (c3)), some (.int (c4)), some (.int (c5)), some (.int (c6)), some (.int (nI (0))), some (.int (nI (j + 1)))]) C (D (113, .iinc 9 1, 3) (mg 56 rfl)) rfl (nI_add (j) 1) rfl ?_
                        refine X_goto (tgt := 26) C (D (116, .goto (-90), 3) (mg 57 rfl)) (by decide) ?_
                        refine X_eq (ls' := [some (.ref (wA w (m))), some (.int (nI (z0))), some (.int (c1)), some (.int (c2)), some (.int (c3)), some (.int (c4)), some (.int (c5)), some (.int (c6)), some (.int (nI (0))), some (.int (nI (j + 1)))]) (st' := []) (h' := h) (g' := g) rfl rfl rfl rfl ?_
                        exact ih26 (j + 1) (nI (0)) (by omega) (by decide) (fun u_ => absurd rfl u_) (fun _ u_ => hlf_ ((u_.2.2 j (by omega)).trans (hl j (by omega)).symm)) (by omega)
                      · skip
                        have hlt_ : B (tS B n p + j) = s6 c1 c2 c3 c4 c5 c6 j := by rw [s6_5 (by omega)]; exact (hB _ (by omega)).symm.trans q9
                        refine X_iconst (v := nI (1)) C (D (106, .iconst 1, 1) (mg 52 rfl)) (by decide) ?_
                        refine X_goto (tgt := 111) C (D (107, .goto 4, 3) (mg 53 rfl)) (by decide) ?_
                        refine X_istore (ls' := [some (.ref (wA w (m))), some (.int (nI (z0))), some (.int (c1)), some (.int (c2)), some (.int (c3)), some (.int (c4)), some (.int (c5)), some (.int (c6)), some (.int (nI (1))), some (.int (nI (j)))]) C (D (111, .istore 8, 2) (mg 55 rfl)) (Nat.le_of_ble_eq_true rfl) rfl ?_
                        refine X_iinc (v := nI (j + 1)) (ls' := [some (.ref (wA w (m))), some (.int (nI (z0))), some (.int (c1)), some (.int (c2)), some (.int (c3)), some (.int (c4)), some (.int (c5)), some (.int (c6)), some (.int (nI (1))), some (.int (nI (j + 1)))]) C (D (113, .iinc 9 1, 3) (mg 56 rfl)) rfl (nI_add (j) 1) rfl ?_
                        refine X_goto (tgt := 26) C (D (116, .goto (-90), 3) (mg 57 rfl)) (by decide) ?_
                        refine X_eq (ls' := [some (.ref (wA w (m))), some (.int (nI (z0))), some (.int (c1)), some (.int (c2)), some (.int (c3)), some (.int (c4)), some (.int (c5)), some (.int (c6)), some (.int (nI (1))), some (.int (nI (j + 1)))]) (st' := []) (h' := h) (g' := g) rfl rfl rfl rfl ?_
                        exact ih26 (j + 1) (nI (1)) (by omega) (by decide) (fun _ => ⟨hq_.1, hq_.2.1, al_s hq_.2.2 hlt_⟩) (fun u_ => absurd u_ (by decide)) (by omega)
                    · skip
                      have q8 : (j) = (4) := by have z := (nI_eq (a := (j)) (b := (4)) (by omega) (by omega)).mp q8; omega
                      refine X_iload C (D (96, .iload 6, 2) (mg 48 rfl)) rfl ?_
                      refine X_goto (tgt := 103) C (D (98, .goto 5, 3) (mg 49 rfl)) (by decide) ?_
                      refine X_icmp_ne (tgt := 110) C (D (103, .if_icmp .ne 7, 3) (mg 51 rfl)) (by decide) (fun q10 => ?_) (fun q10 => ?_)
                      · skip
                        have hlf_ : ¬ B (tS B n p + j) = s6 c1 c2 c3 c4 c5 c6 j := by rw [s6_4 (by omega)]; exact fun u_ => q10 ((hB _ (by omega)).trans u_)
                        refine X_iconst (v := nI (0)) C (D (110, .iconst 0, 1) (mg 54 rfl)) (by decide) ?_
                        refine X_istore (ls' := [some (.ref (wA w (m))), some (.int (nI (z0))), some (.int (c1)), some (.int (c2)), some (.int (c3)), some (.int (c4)), some (.int (c5)), some (.int (c6)), some (.int (nI (0))), some (.int (nI (j)))]) C (D (111, .istore 8, 2) (mg 55 rfl)) (Nat.le_of_ble_eq_true rfl) rfl ?_
                        refine X_iinc (v := nI (j + 1)) (ls' := [some (.ref (wA w (m))), some (.int (nI (z0))), some (.int (c1)), some (.int (c2)), some (.int (c3)), some (.int (c4)), some (.int (c5)), some (.int (c6)), some (.int (nI (0))), some (.int (nI (j + 1)))]) C (D (113, .iinc 9 1, 3) (mg 56 rfl)) rfl (nI_add (j) 1) rfl ?_
                        refine X_goto (tgt := 26) C (D (116, .goto (-90), 3) (mg 57 rfl)) (by decide) ?_
                        refine X_eq (ls' := [some (.ref (wA w (m))), some (.int (nI (z0))), some (.int (c1)), some (.int (c2)), some (.int (c3)), some (.int (c4)), some (.int (c5)), some (.int (c6)), some (.int (nI (0))), some (.int (nI (j + 1)))]) (st' := []) (h' := h) (g' := g) rfl rfl rfl rfl ?_
                        exact ih26 (j + 1) (nI (0)) (by omega) (by decide) (fun u_ => absurd rfl u_) (fun _ u_ => hlf_ ((u_.2.2 j (by omega)).trans (hl j (by omega)).symm)) (by omega)
                      · skip
                        have hlt_ : B (tS B n p + j) = s6 c1 c2 c3 c4 c5 c6 j := by rw [s6_4 (by omega)]; exact (hB _ (by omega)).symm.trans q10
                        refine X_iconst (v := nI (1)) C (D (106, .iconst 1, 1) (mg 52 rfl)) (by decide) ?_
                        refine X_goto (tgt := 111) C (D (107, .goto 4, 3) (mg 53 rfl)) (by decide) ?_
                        refine X_istore (ls' := [some (.ref (wA w (m))), some (.int (nI (z0))), some (.int (c1)), some (.int (c2)), some (.int (c3)), some (.int (c4)), some (.int (c5)), some (.int (c6)), some (.int (nI (1))), some (.int (nI (j)))]) C (D (111, .istore 8, 2) (mg 55 rfl)) (Nat.le_of_ble_eq_true rfl) rfl ?_
                        refine X_iinc (v := nI (j + 1)) (ls' := [some (.ref (wA w (m))), some (.int (nI (z0))), some (.int (c1)), some (.int (c2)), some (.int (c3)), some (.int (c4)), some (.int (c5)), some (.int (c6)), some (.int (nI (1))), some (.int (nI (j + 1)))]) C (D (113, .iinc 9 1, 3) (mg 56 rfl)) rfl (nI_add (j) 1) rfl ?_
                        refine X_goto (tgt := 26) C (D (116, .goto (-90), 3) (mg 57 rfl)) (by decide) ?_
                        refine X_eq (ls' := [some (.ref (wA w (m))), some (.int (nI (z0))), some (.int (c1)), some (.int (c2)), some (.int (c3)), some (.int (c4)), some (.int (c5)), some (.int (c6)), some (.int (nI (1))), some (.int (nI (j + 1)))]) (st' := []) (h' := h) (g' := g) rfl rfl rfl rfl ?_
                        exact ih26 (j + 1) (nI (1)) (by omega) (by decide) (fun _ => ⟨hq_.1, hq_.2.1, al_s hq_.2.2 hlt_⟩) (fun u_ => absurd u_ (by decide)) (by omega)
                  · skip
                    have q7 : (j) = (3) := by have z := (nI_eq (a := (j)) (b := (3)) (by omega) (by omega)).mp q7; omega
                    refine X_iload C (D (85, .iload 5, 2) (mg 43 rfl)) rfl ?_
                    refine X_goto (tgt := 103) C (D (87, .goto 16, 3) (mg 44 rfl)) (by decide) ?_
                    refine X_icmp_ne (tgt := 110) C (D (103, .if_icmp .ne 7, 3) (mg 51 rfl)) (by decide) (fun q11 => ?_) (fun q11 => ?_)
                    · skip
                      have hlf_ : ¬ B (tS B n p + j) = s6 c1 c2 c3 c4 c5 c6 j := by rw [s6_3 (by omega)]; exact fun u_ => q11 ((hB _ (by omega)).trans u_)
                      refine X_iconst (v := nI (0)) C (D (110, .iconst 0, 1) (mg 54 rfl)) (by decide) ?_
                      refine X_istore (ls' := [some (.ref (wA w (m))), some (.int (nI (z0))), some (.int (c1)), some (.int (c2)), some (.int (c3)), some (.int (c4)), some (.int (c5)), some (.int (c6)), some (.int (nI (0))), some (.int (nI (j)))]) C (D (111, .istore 8, 2) (mg 55 rfl)) (Nat.le_of_ble_eq_true rfl) rfl ?_
                      refine X_iinc (v := nI (j + 1)) (ls' := [some (.ref (wA w (m))), some (.int (nI (z0))), some (.int (c1)), some (.int (c2)), some (.int (c3)), some (.int (c4)), some (.int (c5)), some (.int (c6)), some (.int (nI (0))), some (.int (nI (j + 1)))]) C (D (113, .iinc 9 1, 3) (mg 56 rfl)) rfl (nI_add (j) 1) rfl ?_
                      refine X_goto (tgt := 26) C (D (116, .goto (-90), 3) (mg 57 rfl)) (by decide) ?_
                      refine X_eq (ls' := [some (.ref (wA w (m))), some (.int (nI (z0))), some (.int (c1)), some (.int (c2)), some (.int (c3)), some (.int (c4)), some (.int (c5)), some (.int (c6)), some (.int (nI (0))), some (.int (nI (j + 1)))]) (st' := []) (h' := h) (g' := g) rfl rfl rfl rfl ?_
                      exact ih26 (j + 1) (nI (0)) (by omega) (by decide) (fun u_ => absurd rfl u_) (fun _ u_ => hlf_ ((u_.2.2 j (by omega)).trans (hl j (by omega)).symm)) (by omega)
                    · skip
                      have hlt_ : B (tS B n p + j) = s6 c1 c2 c3 c4 c5 c6 j := by rw [s6_3 (by omega)]; exact (hB _ (by omega)).symm.trans q11
                      refine X_iconst (v := nI (1)) C (D (106, .iconst 1, 1) (mg 52 rfl)) (by decide) ?_
                      refine X_goto (tgt := 111) C (D (107, .goto 4, 3) (mg 53 rfl)) (by decide) ?_
                      refine X_istore (ls' := [some (.ref (wA w (m))), some (.int (nI (z0))), some (.int (c1)), some (.int (c2)), some (.int (c3)), some (.int (c4)), some (.int (c5)), some (.int (c6)), some (.int (nI (1))), some (.int (nI (j)))]) C (D (111, .istore 8, 2) (mg 55 rfl)) (Nat.le_of_ble_eq_true rfl) rfl ?_
                      refine X_iinc (v := nI (j + 1)) (ls' := [some (.ref (wA w (m))), some (.int (nI (z0))), some (.int (c1)), some (.int (c2)), some (.int (c3)), some (.int (c4)), some (.int (c5)), some (.int (c6)), some (.int (nI (1))), some (.int (nI (j + 1)))]) C (D (113, .iinc 9 1, 3) (mg 56 rfl)) rfl (nI_add (j) 1) rfl ?_
                      refine X_goto (tgt := 26) C (D (116, .goto (-90), 3) (mg 57 rfl)) (by decide) ?_
                      refine X_eq (ls' := [some (.ref (wA w (m))), some (.int (nI (z0))), some (.int (c1)), some (.int (c2)), some (.int (c3)), some (.int (c4)), some (.int (c5)), some (.int (c6)), some (.int (nI (1))), some (.int (nI (j + 1)))]) (st' := []) (h' := h) (g' := g) rfl rfl rfl rfl ?_
                      exact ih26 (j + 1) (nI (1)) (by omega) (by decide) (fun _ => ⟨hq_.1, hq_.2.1, al_s hq_.2.2 hlt_⟩) (fun u_ => absurd u_ (by decide)) (by omega)
                · skip
                  have q6 : (j) = (2) := by have z := (nI_eq (a := (j)) (b := (2)) (by omega) (by omega)).mp q6; omega
                  refine X_iload C (D (74, .iload 4, 2) (mg 38 rfl)) rfl ?_
                  refine X_goto (tgt := 103) C (D (76, .goto 27, 3) (mg 39 rfl)) (by decide) ?_
                  refine X_icmp_ne (tgt := 110) C (D (103, .if_icmp .ne 7, 3) (mg 51 rfl)) (by decide) (fun q12 => ?_) (fun q12 => ?_)
                  · skip
                    have hlf_ : ¬ B (tS B n p + j) = s6 c1 c2 c3 c4 c5 c6 j := by rw [s6_2 (by omega)]; exact fun u_ => q12 ((hB _ (by omega)).trans u_)
                    refine X_iconst (v := nI (0)) C (D (110, .iconst 0, 1) (mg 54 rfl)) (by decide) ?_
                    refine X_istore (ls' := [some (.ref (wA w (m))), some (.int (nI (z0))), some (.int (c1)), some (.int (c2)), some (.int (c3)), some (.int (c4)), some (.int (c5)), some (.int (c6)), some (.int (nI (0))), some (.int (nI (j)))]) C (D (111, .istore 8, 2) (mg 55 rfl)) (Nat.le_of_ble_eq_true rfl) rfl ?_
                    refine X_iinc (v := nI (j + 1)) (ls' := [some (.ref (wA w (m))), some (.int (nI (z0))), some (.int (c1)), some (.int (c2)), some (.int (c3)), some (.int (c4)), some (.int (c5)), some (.int (c6)), some (.int (nI (0))), some (.int (nI (j + 1)))]) C (D (113, .iinc 9 1, 3) (mg 56 rfl)) rfl (nI_add (j) 1) rfl ?_
                    refine X_goto (tgt := 26) C (D (116, .goto (-90), 3) (mg 57 rfl)) (by decide) ?_
                    refine X_eq (ls' := [some (.ref (wA w (m))), some (.int (nI (z0))), some (.int (c1)), some (.int (c2)), some (.int (c3)), some (.int (c4)), some (.int (c5)), some (.int (c6)), some (.int (nI (0))), some (.int (nI (j + 1)))]) (st' := []) (h' := h) (g' := g) rfl rfl rfl rfl ?_
                    exact ih26 (j + 1) (nI (0)) (by omega) (by decide) (fun u_ => absurd rfl u_) (fun _ u_ => hlf_ ((u_.2.2 j (by omega)).trans (hl j (by omega)).symm)) (by omega)
                  · skip
                    have hlt_ : B (tS B n p + j) = s6 c1 c2 c3 c4 c5 c6 j := by rw [s6_2 (by omega)]; exact (hB _ (by omega)).symm.trans q12
                    refine X_iconst (v := nI (1)) C (D (106, .iconst 1, 1) (mg 52 rfl)) (by decide) ?_
                    refine X_goto (tgt := 111) C (D (107, .goto 4, 3) (mg 53 rfl)) (by decide) ?_
                    refine X_istore (ls' := [some (.ref (wA w (m))), some (.int (nI (z0))), some (.int (c1)), some (.int (c2)), some (.int (c3)), some (.int (c4)), some (.int (c5)), some (.int (c6)), some (.int (nI (1))), some (.int (nI (j)))]) C (D (111, .istore 8, 2) (mg 55 rfl)) (Nat.le_of_ble_eq_true rfl) rfl ?_
                    refine X_iinc (v := nI (j + 1)) (ls' := [some (.ref (wA w (m))), some (.int (nI (z0))), some (.int (c1)), some (.int (c2)), some (.int (c3)), some (.int (c4)), some (.int (c5)), some (.int (c6)), some (.int (nI (1))), some (.int (nI (j + 1)))]) C (D (113, .iinc 9 1, 3) (mg 56 rfl)) rfl (nI_add (j) 1) rfl ?_
                    refine X_goto (tgt := 26) C (D (116, .goto (-90), 3) (mg 57 rfl)) (by decide) ?_
                    refine X_eq (ls' := [some (.ref (wA w (m))), some (.int (nI (z0))), some (.int (c1)), some (.int (c2)), some (.int (c3)), some (.int (c4)), some (.int (c5)), some (.int (c6)), some (.int (nI (1))), some (.int (nI (j + 1)))]) (st' := []) (h' := h) (g' := g) rfl rfl rfl rfl ?_
                    exact ih26 (j + 1) (nI (1)) (by omega) (by decide) (fun _ => ⟨hq_.1, hq_.2.1, al_s hq_.2.2 hlt_⟩) (fun u_ => absurd u_ (by decide)) (by omega)
              · skip
                have q5 : (j) = (1) := by have z := (nI_eq (a := (j)) (b := (1)) (by omega) (by omega)).mp q5; omega
                refine X_iload_n C 3 (D (64, .iload_n 3, 1) (mg 33 rfl)) rfl rfl ?_
                refine X_goto (tgt := 103) C (D (65, .goto 38, 3) (mg 34 rfl)) (by decide) ?_
                refine X_icmp_ne (tgt := 110) C (D (103, .if_icmp .ne 7, 3) (mg 51 rfl)) (by decide) (fun q13 => ?_) (fun q13 => ?_)
                · skip
                  have hlf_ : ¬ B (tS B n p + j) = s6 c1 c2 c3 c4 c5 c6 j := by rw [s6_1 (by omega)]; exact fun u_ => q13 ((hB _ (by omega)).trans u_)
                  refine X_iconst (v := nI (0)) C (D (110, .iconst 0, 1) (mg 54 rfl)) (by decide) ?_
                  refine X_istore (ls' := [some (.ref (wA w (m))), some (.int (nI (z0))), some (.int (c1)), some (.int (c2)), some (.int (c3)), some (.int (c4)), some (.int (c5)), some (.int (c6)), some (.int (nI (0))), some (.int (nI (j)))]) C (D (111, .istore 8, 2) (mg 55 rfl)) (Nat.le_of_ble_eq_true rfl) rfl ?_
                  refine X_iinc (v := nI (j + 1)) (ls' := [some (.ref (wA w (m))), some (.int (nI (z0))), some (.int (c1)), some (.int (c2)), some (.int (c3)), some (.int (c4)), some (.int (c5)), some (.int (c6)), some (.int (nI (0))), some (.int (nI (j + 1)))]) C (D (113, .iinc 9 1, 3) (mg 56 rfl)) rfl (nI_add (j) 1) rfl ?_
                  refine X_goto (tgt := 26) C (D (116, .goto (-90), 3) (mg 57 rfl)) (by decide) ?_
                  refine X_eq (ls' := [some (.ref (wA w (m))), some (.int (nI (z0))), some (.int (c1)), some (.int (c2)), some (.int (c3)), some (.int (c4)), some (.int (c5)), some (.int (c6)), some (.int (nI (0))), some (.int (nI (j + 1)))]) (st' := []) (h' := h) (g' := g) rfl rfl rfl rfl ?_
                  exact ih26 (j + 1) (nI (0)) (by omega) (by decide) (fun u_ => absurd rfl u_) (fun _ u_ => hlf_ ((u_.2.2 j (by omega)).trans (hl j (by omega)).symm)) (by omega)
                · skip
                  have hlt_ : B (tS B n p + j) = s6 c1 c2 c3 c4 c5 c6 j := by rw [s6_1 (by omega)]; exact (hB _ (by omega)).symm.trans q13
                  refine X_iconst (v := nI (1)) C (D (106, .iconst 1, 1) (mg 52 rfl)) (by decide) ?_
                  refine X_goto (tgt := 111) C (D (107, .goto 4, 3) (mg 53 rfl)) (by decide) ?_
                  refine X_istore (ls' := [some (.ref (wA w (m))), some (.int (nI (z0))), some (.int (c1)), some (.int (c2)), some (.int (c3)), some (.int (c4)), some (.int (c5)), some (.int (c6)), some (.int (nI (1))), some (.int (nI (j)))]) C (D (111, .istore 8, 2) (mg 55 rfl)) (Nat.le_of_ble_eq_true rfl) rfl ?_
                  refine X_iinc (v := nI (j + 1)) (ls' := [some (.ref (wA w (m))), some (.int (nI (z0))), some (.int (c1)), some (.int (c2)), some (.int (c3)), some (.int (c4)), some (.int (c5)), some (.int (c6)), some (.int (nI (1))), some (.int (nI (j + 1)))]) C (D (113, .iinc 9 1, 3) (mg 56 rfl)) rfl (nI_add (j) 1) rfl ?_
                  refine X_goto (tgt := 26) C (D (116, .goto (-90), 3) (mg 57 rfl)) (by decide) ?_
                  refine X_eq (ls' := [some (.ref (wA w (m))), some (.int (nI (z0))), some (.int (c1)), some (.int (c2)), some (.int (c3)), some (.int (c4)), some (.int (c5)), some (.int (c6)), some (.int (nI (1))), some (.int (nI (j + 1)))]) (st' := []) (h' := h) (g' := g) rfl rfl rfl rfl ?_
                  exact ih26 (j + 1) (nI (1)) (by omega) (by decide) (fun _ => ⟨hq_.1, hq_.2.1, al_s hq_.2.2 hlt_⟩) (fun u_ => absurd u_ (by decide)) (by omega)
            · skip
              have q4 : (j) = (0) := by have z := (nI_eq (a := (j)) (b := (0)) (by omega) (by omega)).mp q4; omega
              refine X_iload_n C 2 (D (54, .iload_n 2, 1) (mg 28 rfl)) rfl rfl ?_
              refine X_goto (tgt := 103) C (D (55, .goto 48, 3) (mg 29 rfl)) (by decide) ?_
              refine X_icmp_ne (tgt := 110) C (D (103, .if_icmp .ne 7, 3) (mg 51 rfl)) (by decide) (fun q14 => ?_) (fun q14 => ?_)
              · skip
                have hlf_ : ¬ B (tS B n p + j) = s6 c1 c2 c3 c4 c5 c6 j := by rw [s6_0 (by omega)]; exact fun u_ => q14 ((hB _ (by omega)).trans u_)
                refine X_iconst (v := nI (0)) C (D (110, .iconst 0, 1) (mg 54 rfl)) (by decide) ?_
                refine X_istore (ls' := [some (.ref (wA w (m))), some (.int (nI (z0))), some (.int (c1)), some (.int (c2)), some (.int (c3)), some (.int (c4)), some (.int (c5)), some (.int (c6)), some (.int (nI (0))), some (.int (nI (j)))]) C (D (111, .istore 8, 2) (mg 55 rfl)) (Nat.le_of_ble_eq_true rfl) rfl ?_
                refine X_iinc (v := nI (j + 1)) (ls' := [some (.ref (wA w (m))), some (.int (nI (z0))), some (.int (c1)), some (.int (c2)), some (.int (c3)), some (.int (c4)), some (.int (c5)), some (.int (c6)), some (.int (nI (0))), some (.int (nI (j + 1)))]) C (D (113, .iinc 9 1, 3) (mg 56 rfl)) rfl (nI_add (j) 1) rfl ?_
                refine X_goto (tgt := 26) C (D (116, .goto (-90), 3) (mg 57 rfl)) (by decide) ?_
                refine X_eq (ls' := [some (.ref (wA w (m))), some (.int (nI (z0))), some (.int (c1)), some (.int (c2)), some (.int (c3)), some (.int (c4)), some (.int (c5)), some (.int (c6)), some (.int (nI (0))), some (.int (nI (j + 1)))]) (st' := []) (h' := h) (g' := g) rfl rfl rfl rfl ?_
                exact ih26 (j + 1) (nI (0)) (by omega) (by decide) (fun u_ => absurd rfl u_) (fun _ u_ => hlf_ ((u_.2.2 j (by omega)).trans (hl j (by omega)).symm)) (by omega)
              · skip
                have hlt_ : B (tS B n p + j) = s6 c1 c2 c3 c4 c5 c6 j := by rw [s6_0 (by omega)]; exact (hB _ (by omega)).symm.trans q14
                refine X_iconst (v := nI (1)) C (D (106, .iconst 1, 1) (mg 52 rfl)) (by decide) ?_
                refine X_goto (tgt := 111) C (D (107, .goto 4, 3) (mg 53 rfl)) (by decide) ?_
                refine X_istore (ls' := [some (.ref (wA w (m))), some (.int (nI (z0))), some (.int (c1)), some (.int (c2)), some (.int (c3)), some (.int (c4)), some (.int (c5)), some (.int (c6)), some (.int (nI (1))), some (.int (nI (j)))]) C (D (111, .istore 8, 2) (mg 55 rfl)) (Nat.le_of_ble_eq_true rfl) rfl ?_
                refine X_iinc (v := nI (j + 1)) (ls' := [some (.ref (wA w (m))), some (.int (nI (z0))), some (.int (c1)), some (.int (c2)), some (.int (c3)), some (.int (c4)), some (.int (c5)), some (.int (c6)), some (.int (nI (1))), some (.int (nI (j + 1)))]) C (D (113, .iinc 9 1, 3) (mg 56 rfl)) rfl (nI_add (j) 1) rfl ?_
                refine X_goto (tgt := 26) C (D (116, .goto (-90), 3) (mg 57 rfl)) (by decide) ?_
                refine X_eq (ls' := [some (.ref (wA w (m))), some (.int (nI (z0))), some (.int (c1)), some (.int (c2)), some (.int (c3)), some (.int (c4)), some (.int (c5)), some (.int (c6)), some (.int (nI (1))), some (.int (nI (j + 1)))]) (st' := []) (h' := h) (g' := g) rfl rfl rfl rfl ?_
                exact ih26 (j + 1) (nI (1)) (by omega) (by decide) (fun _ => ⟨hq_.1, hq_.2.1, al_s hq_.2.2 hlt_⟩) (fun u_ => absurd u_ (by decide)) (by omega)
    refine X_eq (ls' := [some (.ref (wA w (m))), some (.int (nI (z0))), some (.int (c1)), some (.int (c2)), some (.int (c3)), some (.int (c4)), some (.int (c5)), some (.int (c6)), some (.int (nI (0))), some (.int (nI (0)))]) (st' := []) (h' := h) (g' := g) rfl rfl rfl rfl ?_
    exact lp26 _ (0) (nI (0)) (by omega) (by decide) (fun u_ => absurd rfl u_) (fun _ u_ => by have a_ := u_.1; have b_ := u_.2.1; omega) (Nat.le_refl _)
  · skip
    have q1 : (tT B n (p)) = (1) := by have z := (nI_eq (a := (tT B n (p))) (b := (1)) (by omega) (by omega)).mp q1; omega
    refine X_aload_n C 0 (D (8, .aload_n 0, 1) (mg 4 rfl)) rfl rfl ?_
    refine X_get (v := .int (h (m) 13)) C (m) 13 (by omega) hsm rfl rfl (by decide) inX8 fX8_253 rfl (D (9, .getfield 253, 3) (mg 5 rfl)) rfl ?_
    refine X_ti (y := nI (tE B n (p) - tS B n (p))) (ht13) ?_
    refine X_iload_n C 1 (D (12, .iload_n 1, 1) (mg 6 rfl)) rfl rfl ?_
    refine X_icmp_ne (tgt := 20) C (D (13, .if_icmp .ne 7, 3) (mg 7 rfl)) (by decide) (fun q15 => ?_) (fun q15 => ?_)
    · skip
      have q15 : (tE B n (p) - tS B n (p)) ≠ (z0) := by have z : ¬ ((tE B n (p) - tS B n (p)) = (z0)) := fun u => q15 ((nI_eq (a := (tE B n (p) - tS B n (p))) (b := (z0)) (by omega) (by omega)).mpr u); omega
      refine X_iconst (v := nI (0)) C (D (20, .iconst 0, 1) (mg 10 rfl)) (by decide) ?_
      refine X_istore (ls' := [some (.ref (wA w (m))), some (.int (nI (z0))), some (.int (c1)), some (.int (c2)), some (.int (c3)), some (.int (c4)), some (.int (c5)), some (.int (c6)), some (.int (nI (0))), none]) C (D (21, .istore 8, 2) (mg 11 rfl)) (Nat.le_of_ble_eq_true rfl) rfl ?_
      refine X_iconst (v := nI (0)) C (D (23, .iconst 0, 1) (mg 12 rfl)) (by decide) ?_
      refine X_istore (ls' := [some (.ref (wA w (m))), some (.int (nI (z0))), some (.int (c1)), some (.int (c2)), some (.int (c3)), some (.int (c4)), some (.int (c5)), some (.int (c6)), some (.int (nI (0))), some (.int (nI (0)))]) C (D (24, .istore 9, 2) (mg 13 rfl)) (Nat.le_of_ble_eq_true rfl) rfl ?_
      have lp26 : ∀ (nn26 : Nat) (j : Nat) (b8 : Int32), (j ≤ z0) → (b8 = 0 ∨ b8 = 1) → (¬ b8 = 0 → tT B n p = 1 ∧ tE B n p - tS B n p = z0 ∧ ∀ k, k < j → B (tS B n p + k) = s6 c1 c2 c3 c4 c5 c6 k) → (b8 = 0 → ¬ isW B n p i) → 7 - j ≤ nn26 → X k w (Zq k w (pP (fun y => (y = 0 ∨ y = 1) ∧ (¬ y = 0 ↔ isW B n p i)) h g)) 26 [some (.ref (wA w (m))), some (.int (nI (z0))), some (.int (c1)), some (.int (c2)), some (.int (c3)), some (.int (c4)), some (.int (c5)), some (.int (c6)), some (.int (b8)), some (.int (nI (j)))] [] h g := by
        intro nn26
        induction nn26 with
        | zero => intro j b8 hc26_0 hc26_1 hc26_2 hc26_3 hz; exact absurd hz (by omega)
        | succ nn26 ih26 =>
          intro j b8 hc26_0 hc26_1 hc26_2 hc26_3 hz26
          refine X_iload C (D (26, .iload 9, 2) (mg 14 rfl)) rfl ?_
          refine X_iload_n C 1 (D (28, .iload_n 1, 1) (mg 15 rfl)) rfl rfl ?_
          refine X_icmp_ge (tgt := 119) C (D (29, .if_icmp .ge 90, 3) (mg 16 rfl)) (by decide) (fun q16 => ?_) (fun q16 => ?_)
          · skip
            have q16 : (j) ≥ (z0) := by have z := (nI_leI (a := (z0)) (b := (j)) (by omega) (by omega)).mp q16; omega
            refine X_iload C (D (119, .iload 8, 2) (mg 58 rfl)) rfl ?_
            exact X_zret C (D (121, .ireturn, 1) (mg 59 rfl)) (nb_01 hc26_1) ⟨⟨_, rfl, hc26_1, ⟨(by first | exact (fun u_ => absurd (by assumption) u_) | exact (fun u_ => ⟨(hc26_2 u_).1, (hc26_2 u_).2.1.trans hz0, fun k hk => ((hc26_2 u_).2.2 k (by omega)).trans (hl k hk)⟩)), fun u_ v_ => hc26_3 v_ u_⟩⟩, rfl, rfl⟩
          · skip
            have q16 : (j) < (z0) := by have z : ¬ ((z0) ≤ (j)) := fun u => q16 ((nI_leI (a := (z0)) (b := (j)) (by omega) (by omega)).mpr u); omega
            refine X_iload C (D (32, .iload 8, 2) (mg 17 rfl)) rfl ?_
            refine X_if_eq (tgt := 119) C (D (34, .ifCond .eq 85, 3) (mg 18 rfl)) (by decide) (fun q17 => ?_) (fun q17 => ?_)
            · skip
              refine X_iload C (D (119, .iload 8, 2) (mg 58 rfl)) rfl ?_
              exact X_zret C (D (121, .ireturn, 1) (mg 59 rfl)) (nb_01 hc26_1) ⟨⟨_, rfl, hc26_1, ⟨(by first | exact (fun u_ => absurd (by assumption) u_) | exact (fun u_ => ⟨(hc26_2 u_).1, (hc26_2 u_).2.1.trans hz0, fun k hk => ((hc26_2 u_).2.2 k (by omega)).trans (hl k hk)⟩)), fun u_ v_ => hc26_3 v_ u_⟩⟩, rfl, rfl⟩
            · skip
              have hq_ := hc26_2 (by assumption)
              have hq2_ := hq_.2.1
              refine X_aload_n C 0 (D (37, .aload_n 0, 1) (mg 19 rfl)) rfl rfl ?_
              refine X_get (v := .ref (wA w (m + 9))) C (m) 10 (by omega) hsm rfl rfl (by decide) inX8 fX8_39 rfl (D (38, .getfield 39, 3) (mg 20 rfl)) rfl ?_
              refine X_aload_n C 0 (D (41, .aload_n 0, 1) (mg 21 rfl)) rfl rfl ?_
              refine X_get (v := .int (h (m) 12)) C (m) 12 (by omega) hsm rfl rfl (by decide) inX8 fX8_250 rfl (D (42, .getfield 250, 3) (mg 22 rfl)) rfl ?_
              refine X_ti (y := nI (tS B n (p))) (ht12) ?_
              refine X_iload C (D (45, .iload 9, 2) (mg 23 rfl)) rfl ?_
              refine X_iadd C (D (47, .iadd, 1) (mg 24 rfl)) ?_
              refine X_ti (y := nI (tS B n (p) + j)) (nI_add (tS B n (p)) (j)) ?_
              refine X_iald (v := h (m + 9) (tS B n (p) + j)) C (m + 9) (by omega) hs9 (vp_in_nI (by omega) (by omega)) (D (48, .iaload, 1) (mg 25 rfl)) (by rw [nI_clamp (by omega)]) ?_
              refine X_iload C (D (49, .iload 9, 2) (mg 26 rfl)) rfl ?_
              refine X_if_ne (tgt := 58) C (D (51, .ifCond .ne 7, 3) (mg 27 rfl)) (by decide) (fun q18 => ?_) (fun q18 => ?_)
              · skip
                have q18 : (j) ≠ (0) := by have z : ¬ ((j) = (0)) := fun u => q18 ((nI_eq (a := (j)) (b := (0)) (by omega) (by omega)).mpr u); omega
                refine X_iload C (D (58, .iload 9, 2) (mg 30 rfl)) rfl ?_
                refine X_iconst (v := nI (1)) C (D (60, .iconst 1, 1) (mg 31 rfl)) (by decide) ?_
                refine X_icmp_ne (tgt := 68) C (D (61, .if_icmp .ne 7, 3) (mg 32 rfl)) (by decide) (fun q19 => ?_) (fun q19 => ?_)
                · skip
                  have q19 : (j) ≠ (1) := by have z : ¬ ((j) = (1)) := fun u => q19 ((nI_eq (a := (j)) (b := (1)) (by omega) (by omega)).mpr u); omega
                  refine X_iload C (D (68, .iload 9, 2) (mg 35 rfl)) rfl ?_
                  refine X_iconst (v := nI (2)) C (D (70, .iconst 2, 1) (mg 36 rfl)) (by decide) ?_
                  refine X_icmp_ne (tgt := 79) C (D (71, .if_icmp .ne 8, 3) (mg 37 rfl)) (by decide) (fun q20 => ?_) (fun q20 => ?_)
                  · skip
                    have q20 : (j) ≠ (2) := by have z : ¬ ((j) = (2)) := fun u => q20 ((nI_eq (a := (j)) (b := (2)) (by omega) (by omega)).mpr u); omega
                    refine X_iload C (D (79, .iload 9, 2) (mg 40 rfl)) rfl ?_
                    refine X_iconst (v := nI (3)) C (D (81, .iconst 3, 1) (mg 41 rfl)) (by decide) ?_
                    refine X_icmp_ne (tgt := 90) C (D (82, .if_icmp .ne 8, 3) (mg 42 rfl)) (by decide) (fun q21 => ?_) (fun q21 => ?_)
                    · skip
                      have q21 : (j) ≠ (3) := by have z : ¬ ((j) = (3)) := fun u => q21 ((nI_eq (a := (j)) (b := (3)) (by omega) (by omega)).mpr u); omega
                      refine X_iload C (D (90, .iload 9, 2) (mg 45 rfl)) rfl ?_
                      refine X_iconst (v := nI (4)) C (D (92, .iconst 4, 1) (mg 46 rfl)) (by decide) ?_
                      refine X_icmp_ne (tgt := 101) C (D (93, .if_icmp .ne 8, 3) (mg 47 rfl)) (by decide) (fun q22 => ?_) (fun q22 => ?_)
                      · skip
                        have q22 : (j) ≠ (4) := by have z : ¬ ((j) = (4)) := fun u => q22 ((nI_eq (a := (j)) (b := (4)) (by omega) (by omega)).mpr u); omega
                        refine X_iload C (D (101, .iload 7, 2) (mg 50 rfl)) rfl ?_
                        refine X_icmp_ne (tgt := 110) C (D (103, .if_icmp .ne 7, 3) (mg 51 rfl)) (by decide) (fun q23 => ?_) (fun q23 => ?_)
                        · skip
                          have hlf_ : ¬ B (tS B n p + j) = s6 c1 c2 c3 c4 c5 c6 j := by rw [s6_5 (by omega)]; exact fun u_ => q23 ((hB _ (by omega)).trans u_)
                          refine X_iconst (v := nI (0)) C (D (110, .iconst 0, 1) (mg 54 rfl)) (by decide) ?_
                          refine X_istore (ls' := [some (.ref (wA w (m))), some (.int (nI (z0))), some (.int (c1)), some (.int (c2)), some (.int (c3)), some (.int (c4)), some (.int (c5)), some (.int (c6)), some (.int (nI (0))), some (.int (nI (j)))]) C (D (111, .istore 8, 2) (mg 55 rfl)) (Nat.le_of_ble_eq_true rfl) rfl ?_
                          refine X_iinc (v := nI (j + 1)) (ls' := [some (.ref (wA w (m))), some (.int (nI (z0))), some (.int (c1)), some (.int (c2)), some (.int (c3)), some (.int (c4)), some (.int (c5)), some (.int (c6)), some (.int (nI (0))), some (.int (nI (j + 1)))]) C (D (113, .iinc 9 1, 3) (mg 56 rfl)) rfl (nI_add (j) 1) rfl ?_
                          refine X_goto (tgt := 26) C (D (116, .goto (-90), 3) (mg 57 rfl)) (by decide) ?_
                          refine X_eq (ls' := [some (.ref (wA w (m))), some (.int (nI (z0))), some (.int (c1)), some (.int (c2)), some (.int (c3)), some (.int (c4)), some (.int (c5)), some (.int (c6)), some (.int (nI (0))), some (.int (nI (j + 1)))]) (st' := []) (h' := h) (g' := g) rfl rfl rfl rfl ?_
                          exact ih26 (j + 1) (nI (0)) (by omega) (by decide) (fun u_ => absurd rfl u_) (fun _ u_ => hlf_ ((u_.2.2 j (by omega)).trans (hl j (by omega)).symm)) (by omega)
                        · skip
                          have hlt_ : B (tS B n p + j) = s6 c1 c2 c3 c4 c5 c6 j := by rw [s6_5 (by omega)]; exact (hB _ (by omega)).symm.trans q23
                          refine X_iconst (v := nI (1)) C (D (106, .iconst 1, 1) (mg 52 rfl)) (by decide) ?_
                          refine X_goto (tgt := 111) C (D (107, .goto 4, 3) (mg 53 rfl)) (by decide) ?_
                          refine X_istore (ls' := [some (.ref (wA w (m))), some (.int (nI (z0))), some (.int (c1)), some (.int (c2)), some (.int (c3)), some (.int (c4)), some (.int (c5)), some (.int (c6)), some (.int (nI (1))), some (.int (nI (j)))]) C (D (111, .istore 8, 2) (mg 55 rfl)) (Nat.le_of_ble_eq_true rfl) rfl ?_
                          refine X_iinc (v := nI (j + 1)) (ls' := [some (.ref (wA w (m))), some (.int (nI (z0))), some (.int (c1)), some (.int (c2)), some (.int (c3)), some (.int (c4)), some (.int (c5)), some (.int (c6)), some (.int (nI (1))), some (.int (nI (j + 1)))]) C (D (113, .iinc 9 1, 3) (mg 56 rfl)) rfl (nI_add (j) 1) rfl ?_
                          refine X_goto (tgt := 26) C (D (116, .goto (-90), 3) (mg 57 rfl)) (by decide) ?_
                          refine X_eq (ls' := [some (.ref (wA w (m))), some (.int (nI (z0))), some (.int (c1)), some (.int (c2)), some (.int (c3)), some (.int (c4)), some (.int (c5)), some (.int (c6)), some (.int (nI (1))), some (.int (nI (j + 1)))]) (st' := []) (h' := h) (g' := g) rfl rfl rfl rfl ?_
                          exact ih26 (j + 1) (nI (1)) (by omega) (by decide) (fun _ => ⟨hq_.1, hq_.2.1, al_s hq_.2.2 hlt_⟩) (fun u_ => absurd u_ (by decide)) (by omega)
                      · skip
                        have q22 : (j) = (4) := by have z := (nI_eq (a := (j)) (b := (4)) (by omega) (by omega)).mp q22; omega
                        refine X_iload C (D (96, .iload 6, 2) (mg 48 rfl)) rfl ?_
                        refine X_goto (tgt := 103) C (D (98, .goto 5, 3) (mg 49 rfl)) (by decide) ?_
                        refine X_icmp_ne (tgt := 110) C (D (103, .if_icmp .ne 7, 3) (mg 51 rfl)) (by decide) (fun q24 => ?_) (fun q24 => ?_)
                        · skip
                          have hlf_ : ¬ B (tS B n p + j) = s6 c1 c2 c3 c4 c5 c6 j := by rw [s6_4 (by omega)]; exact fun u_ => q24 ((hB _ (by omega)).trans u_)
                          refine X_iconst (v := nI (0)) C (D (110, .iconst 0, 1) (mg 54 rfl)) (by decide) ?_
                          refine X_istore (ls' := [some (.ref (wA w (m))), some (.int (nI (z0))), some (.int (c1)), some (.int (c2)), some (.int (c3)), some (.int (c4)), some (.int (c5)), some (.int (c6)), some (.int (nI (0))), some (.int (nI (j)))]) C (D (111, .istore 8, 2) (mg 55 rfl)) (Nat.le_of_ble_eq_true rfl) rfl ?_
                          refine X_iinc (v := nI (j + 1)) (ls' := [some (.ref (wA w (m))), some (.int (nI (z0))), some (.int (c1)), some (.int (c2)), some (.int (c3)), some (.int (c4)), some (.int (c5)), some (.int (c6)), some (.int (nI (0))), some (.int (nI (j + 1)))]) C (D (113, .iinc 9 1, 3) (mg 56 rfl)) rfl (nI_add (j) 1) rfl ?_
                          refine X_goto (tgt := 26) C (D (116, .goto (-90), 3) (mg 57 rfl)) (by decide) ?_
                          refine X_eq (ls' := [some (.ref (wA w (m))), some (.int (nI (z0))), some (.int (c1)), some (.int (c2)), some (.int (c3)), some (.int (c4)), some (.int (c5)), some (.int (c6)), some (.int (nI (0))), some (.int (nI (j + 1)))]) (st' := []) (h' := h) (g' := g) rfl rfl rfl rfl ?_
                          exact ih26 (j + 1) (nI (0)) (by omega) (by decide) (fun u_ => absurd rfl u_) (fun _ u_ => hlf_ ((u_.2.2 j (by omega)).trans (hl j (by omega)).symm)) (by omega)
                        · skip
                          have hlt_ : B (tS B n p + j) = s6 c1 c2 c3 c4 c5 c6 j := by rw [s6_4 (by omega)]; exact (hB _ (by omega)).symm.trans q24
                          refine X_iconst (v := nI (1)) C (D (106, .iconst 1, 1) (mg 52 rfl)) (by decide) ?_
                          refine X_goto (tgt := 111) C (D (107, .goto 4, 3) (mg 53 rfl)) (by decide) ?_
                          refine X_istore (ls' := [some (.ref (wA w (m))), some (.int (nI (z0))), some (.int (c1)), some (.int (c2)), some (.int (c3)), some (.int (c4)), some (.int (c5)), some (.int (c6)), some (.int (nI (1))), some (.int (nI (j)))]) C (D (111, .istore 8, 2) (mg 55 rfl)) (Nat.le_of_ble_eq_true rfl) rfl ?_
                          refine X_iinc (v := nI (j + 1)) (ls' := [some (.ref (wA w (m))), some (.int (nI (z0))), some (.int (c1)), some (.int (c2)), some (.int (c3)), some (.int (c4)), some (.int (c5)), some (.int (c6)), some (.int (nI (1))), some (.int (nI (j + 1)))]) C (D (113, .iinc 9 1, 3) (mg 56 rfl)) rfl (nI_add (j) 1) rfl ?_
                          refine X_goto (tgt := 26) C (D (116, .goto (-90), 3) (mg 57 rfl)) (by decide) ?_
                          refine X_eq (ls' := [some (.ref (wA w (m))), some (.int (nI (z0))), some (.int (c1)), some (.int (c2)), some (.int (c3)), some (.int (c4)), some (.int (c5)), some (.int (c6)), some (.int (nI (1))), some (.int (nI (j + 1)))]) (st' := []) (h' := h) (g' := g) rfl rfl rfl rfl ?_
                          exact ih26 (j + 1) (nI (1)) (by omega) (by decide) (fun _ => ⟨hq_.1, hq_.2.1, al_s hq_.2.2 hlt_⟩) (fun u_ => absurd u_ (by decide)) (by omega)
                    · skip
                      have q21 : (j) = (3) := by have z := (nI_eq (a := (j)) (b := (3)) (by omega) (by omega)).mp q21; omega
                      refine X_iload C (D (85, .iload 5, 2) (mg 43 rfl)) rfl ?_
                      refine X_goto (tgt := 103) C (D (87, .goto 16, 3) (mg 44 rfl)) (by decide) ?_
                      refine X_icmp_ne (tgt := 110) C (D (103, .if_icmp .ne 7, 3) (mg 51 rfl)) (by decide) (fun q25 => ?_) (fun q25 => ?_)
                      · skip
                        have hlf_ : ¬ B (tS B n p + j) = s6 c1 c2 c3 c4 c5 c6 j := by rw [s6_3 (by omega)]; exact fun u_ => q25 ((hB _ (by omega)).trans u_)
                        refine X_iconst (v := nI (0)) C (D (110, .iconst 0, 1) (mg 54 rfl)) (by decide) ?_
                        refine X_istore (ls' := [some (.ref (wA w (m))), some (.int (nI (z0))), some (.int (c1)), some (.int (c2)), some (.int (c3)), some (.int (c4)), some (.int (c5)), some (.int (c6)), some (.int (nI (0))), some (.int (nI (j)))]) C (D (111, .istore 8, 2) (mg 55 rfl)) (Nat.le_of_ble_eq_true rfl) rfl ?_
                        refine X_iinc (v := nI (j + 1)) (ls' := [some (.ref (wA w (m))), some (.int (nI (z0))), some (.int (c1)), some (.int (c2)), some (.int (c3)), some (.int (c4)), some (.int (c5)), some (.int (c6)), some (.int (nI (0))), some (.int (nI (j + 1)))]) C (D (113, .iinc 9 1, 3) (mg 56 rfl)) rfl (nI_add (j) 1) rfl ?_
                        refine X_goto (tgt := 26) C (D (116, .goto (-90), 3) (mg 57 rfl)) (by decide) ?_
                        refine X_eq (ls' := [some (.ref (wA w (m))), some (.int (nI (z0))), some (.int (c1)), some (.int (c2)), some (.int (c3)), some (.int (c4)), some (.int (c5)), some (.int (c6)), some (.int (nI (0))), some (.int (nI (j + 1)))]) (st' := []) (h' := h) (g' := g) rfl rfl rfl rfl ?_
                        exact ih26 (j + 1) (nI (0)) (by omega) (by decide) (fun u_ => absurd rfl u_) (fun _ u_ => hlf_ ((u_.2.2 j (by omega)).trans (hl j (by omega)).symm)) (by omega)
                      · skip
                        have hlt_ : B (tS B n p + j) = s6 c1 c2 c3 c4 c5 c6 j := by rw [s6_3 (by omega)]; exact (hB _ (by omega)).symm.trans q25
                        refine X_iconst (v := nI (1)) C (D (106, .iconst 1, 1) (mg 52 rfl)) (by decide) ?_
                        refine X_goto (tgt := 111) C (D (107, .goto 4, 3) (mg 53 rfl)) (by decide) ?_
                        refine X_istore (ls' := [some (.ref (wA w (m))), some (.int (nI (z0))), some (.int (c1)), some (.int (c2)), some (.int (c3)), some (.int (c4)), some (.int (c5)), some (.int (c6)), some (.int (nI (1))), some (.int (nI (j)))]) C (D (111, .istore 8, 2) (mg 55 rfl)) (Nat.le_of_ble_eq_true rfl) rfl ?_
                        refine X_iinc (v := nI (j + 1)) (ls' := [some (.ref (wA w (m))), some (.int (nI (z0))), some (.int (c1)), some (.int (c2)), some (.int (c3)), some (.int (c4)), some (.int (c5)), some (.int (c6)), some (.int (nI (1))), some (.int (nI (j + 1)))]) C (D (113, .iinc 9 1, 3) (mg 56 rfl)) rfl (nI_add (j) 1) rfl ?_
                        refine X_goto (tgt := 26) C (D (116, .goto (-90), 3) (mg 57 rfl)) (by decide) ?_
                        refine X_eq (ls' := [some (.ref (wA w (m))), some (.int (nI (z0))), some (.int (c1)), some (.int (c2)), some (.int (c3)), some (.int (c4)), some (.int (c5)), some (.int (c6)), some (.int (nI (1))), some (.int (nI (j + 1)))]) (st' := []) (h' := h) (g' := g) rfl rfl rfl rfl ?_
                        exact ih26 (j + 1) (nI (1)) (by omega) (by decide) (fun _ => ⟨hq_.1, hq_.2.1, al_s hq_.2.2 hlt_⟩) (fun u_ => absurd u_ (by decide)) (by omega)
                  · skip
                    have q20 : (j) = (2) := by have z := (nI_eq (a := (j)) (b := (2)) (by omega) (by omega)).mp q20; omega
                    refine X_iload C (D (74, .iload 4, 2) (mg 38 rfl)) rfl ?_
                    refine X_goto (tgt := 103) C (D (76, .goto 27, 3) (mg 39 rfl)) (by decide) ?_
                    refine X_icmp_ne (tgt := 110) C (D (103, .if_icmp .ne 7, 3) (mg 51 rfl)) (by decide) (fun q26 => ?_) (fun q26 => ?_)
                    · skip
                      have hlf_ : ¬ B (tS B n p + j) = s6 c1 c2 c3 c4 c5 c6 j := by rw [s6_2 (by omega)]; exact fun u_ => q26 ((hB _ (by omega)).trans u_)
                      refine X_iconst (v := nI (0)) C (D (110, .iconst 0, 1) (mg 54 rfl)) (by decide) ?_
                      refine X_istore (ls' := [some (.ref (wA w (m))), some (.int (nI (z0))), some (.int (c1)), some (.int (c2)), some (.int (c3)), some (.int (c4)), some (.int (c5)), some (.int (c6)), some (.int (nI (0))), some (.int (nI (j)))]) C (D (111, .istore 8, 2) (mg 55 rfl)) (Nat.le_of_ble_eq_true rfl) rfl ?_
                      refine X_iinc (v := nI (j + 1)) (ls' := [some (.ref (wA w (m))), some (.int (nI (z0))), some (.int (c1)), some (.int (c2)), some (.int (c3)), some (.int (c4)), some (.int (c5)), some (.int (c6)), some (.int (nI (0))), some (.int (nI (j + 1)))]) C (D (113, .iinc 9 1, 3) (mg 56 rfl)) rfl (nI_add (j) 1) rfl ?_
                      refine X_goto (tgt := 26) C (D (116, .goto (-90), 3) (mg 57 rfl)) (by decide) ?_
                      refine X_eq (ls' := [some (.ref (wA w (m))), some (.int (nI (z0))), some (.int (c1)), some (.int (c2)), some (.int (c3)), some (.int (c4)), some (.int (c5)), some (.int (c6)), some (.int (nI (0))), some (.int (nI (j + 1)))]) (st' := []) (h' := h) (g' := g) rfl rfl rfl rfl ?_
                      exact ih26 (j + 1) (nI (0)) (by omega) (by decide) (fun u_ => absurd rfl u_) (fun _ u_ => hlf_ ((u_.2.2 j (by omega)).trans (hl j (by omega)).symm)) (by omega)
                    · skip
                      have hlt_ : B (tS B n p + j) = s6 c1 c2 c3 c4 c5 c6 j := by rw [s6_2 (by omega)]; exact (hB _ (by omega)).symm.trans q26
                      refine X_iconst (v := nI (1)) C (D (106, .iconst 1, 1) (mg 52 rfl)) (by decide) ?_
                      refine X_goto (tgt := 111) C (D (107, .goto 4, 3) (mg 53 rfl)) (by decide) ?_
                      refine X_istore (ls' := [some (.ref (wA w (m))), some (.int (nI (z0))), some (.int (c1)), some (.int (c2)), some (.int (c3)), some (.int (c4)), some (.int (c5)), some (.int (c6)), some (.int (nI (1))), some (.int (nI (j)))]) C (D (111, .istore 8, 2) (mg 55 rfl)) (Nat.le_of_ble_eq_true rfl) rfl ?_
                      refine X_iinc (v := nI (j + 1)) (ls' := [some (.ref (wA w (m))), some (.int (nI (z0))), some (.int (c1)), some (.int (c2)), some (.int (c3)), some (.int (c4)), some (.int (c5)), some (.int (c6)), some (.int (nI (1))), some (.int (nI (j + 1)))]) C (D (113, .iinc 9 1, 3) (mg 56 rfl)) rfl (nI_add (j) 1) rfl ?_
                      refine X_goto (tgt := 26) C (D (116, .goto (-90), 3) (mg 57 rfl)) (by decide) ?_
                      refine X_eq (ls' := [some (.ref (wA w (m))), some (.int (nI (z0))), some (.int (c1)), some (.int (c2)), some (.int (c3)), some (.int (c4)), some (.int (c5)), some (.int (c6)), some (.int (nI (1))), some (.int (nI (j + 1)))]) (st' := []) (h' := h) (g' := g) rfl rfl rfl rfl ?_
                      exact ih26 (j + 1) (nI (1)) (by omega) (by decide) (fun _ => ⟨hq_.1, hq_.2.1, al_s hq_.2.2 hlt_⟩) (fun u_ => absurd u_ (by decide)) (by omega)
                · skip
                  have q19 : (j) = (1) := by have z := (nI_eq (a := (j)) (b := (1)) (by omega) (by omega)).mp q19; omega
                  refine X_iload_n C 3 (D (64, .iload_n 3, 1) (mg 33 rfl)) rfl rfl ?_
                  refine X_goto (tgt := 103) C (D (65, .goto 38, 3) (mg 34 rfl)) (by decide) ?_
                  refine X_icmp_ne (tgt := 110) C (D (103, .if_icmp .ne 7, 3) (mg 51 rfl)) (by decide) (fun q27 => ?_) (fun q27 => ?_)
                  · skip
                    have hlf_ : ¬ B (tS B n p + j) = s6 c1 c2 c3 c4 c5 c6 j := by rw [s6_1 (by omega)]; exact fun u_ => q27 ((hB _ (by omega)).trans u_)
                    refine X_iconst (v := nI (0)) C (D (110, .iconst 0, 1) (mg 54 rfl)) (by decide) ?_
                    refine X_istore (ls' := [some (.ref (wA w (m))), some (.int (nI (z0))), some (.int (c1)), some (.int (c2)), some (.int (c3)), some (.int (c4)), some (.int (c5)), some (.int (c6)), some (.int (nI (0))), some (.int (nI (j)))]) C (D (111, .istore 8, 2) (mg 55 rfl)) (Nat.le_of_ble_eq_true rfl) rfl ?_
                    refine X_iinc (v := nI (j + 1)) (ls' := [some (.ref (wA w (m))), some (.int (nI (z0))), some (.int (c1)), some (.int (c2)), some (.int (c3)), some (.int (c4)), some (.int (c5)), some (.int (c6)), some (.int (nI (0))), some (.int (nI (j + 1)))]) C (D (113, .iinc 9 1, 3) (mg 56 rfl)) rfl (nI_add (j) 1) rfl ?_
                    refine X_goto (tgt := 26) C (D (116, .goto (-90), 3) (mg 57 rfl)) (by decide) ?_
                    refine X_eq (ls' := [some (.ref (wA w (m))), some (.int (nI (z0))), some (.int (c1)), some (.int (c2)), some (.int (c3)), some (.int (c4)), some (.int (c5)), some (.int (c6)), some (.int (nI (0))), some (.int (nI (j + 1)))]) (st' := []) (h' := h) (g' := g) rfl rfl rfl rfl ?_
                    exact ih26 (j + 1) (nI (0)) (by omega) (by decide) (fun u_ => absurd rfl u_) (fun _ u_ => hlf_ ((u_.2.2 j (by omega)).trans (hl j (by omega)).symm)) (by omega)
                  · skip
                    have hlt_ : B (tS B n p + j) = s6 c1 c2 c3 c4 c5 c6 j := by rw [s6_1 (by omega)]; exact (hB _ (by omega)).symm.trans q27
                    refine X_iconst (v := nI (1)) C (D (106, .iconst 1, 1) (mg 52 rfl)) (by decide) ?_
                    refine X_goto (tgt := 111) C (D (107, .goto 4, 3) (mg 53 rfl)) (by decide) ?_
                    refine X_istore (ls' := [some (.ref (wA w (m))), some (.int (nI (z0))), some (.int (c1)), some (.int (c2)), some (.int (c3)), some (.int (c4)), some (.int (c5)), some (.int (c6)), some (.int (nI (1))), some (.int (nI (j)))]) C (D (111, .istore 8, 2) (mg 55 rfl)) (Nat.le_of_ble_eq_true rfl) rfl ?_
                    refine X_iinc (v := nI (j + 1)) (ls' := [some (.ref (wA w (m))), some (.int (nI (z0))), some (.int (c1)), some (.int (c2)), some (.int (c3)), some (.int (c4)), some (.int (c5)), some (.int (c6)), some (.int (nI (1))), some (.int (nI (j + 1)))]) C (D (113, .iinc 9 1, 3) (mg 56 rfl)) rfl (nI_add (j) 1) rfl ?_
                    refine X_goto (tgt := 26) C (D (116, .goto (-90), 3) (mg 57 rfl)) (by decide) ?_
                    refine X_eq (ls' := [some (.ref (wA w (m))), some (.int (nI (z0))), some (.int (c1)), some (.int (c2)), some (.int (c3)), some (.int (c4)), some (.int (c5)), some (.int (c6)), some (.int (nI (1))), some (.int (nI (j + 1)))]) (st' := []) (h' := h) (g' := g) rfl rfl rfl rfl ?_
                    exact ih26 (j + 1) (nI (1)) (by omega) (by decide) (fun _ => ⟨hq_.1, hq_.2.1, al_s hq_.2.2 hlt_⟩) (fun u_ => absurd u_ (by decide)) (by omega)
              · skip
                have q18 : (j) = (0) := by have z := (nI_eq (a := (j)) (b := (0)) (by omega) (by omega)).mp q18; omega
                refine X_iload_n C 2 (D (54, .iload_n 2, 1) (mg 28 rfl)) rfl rfl ?_
                refine X_goto (tgt := 103) C (D (55, .goto 48, 3) (mg 29 rfl)) (by decide) ?_
                refine X_icmp_ne (tgt := 110) C (D (103, .if_icmp .ne 7, 3) (mg 51 rfl)) (by decide) (fun q28 => ?_) (fun q28 => ?_)
                · skip
                  have hlf_ : ¬ B (tS B n p + j) = s6 c1 c2 c3 c4 c5 c6 j := by rw [s6_0 (by omega)]; exact fun u_ => q28 ((hB _ (by omega)).trans u_)
                  refine X_iconst (v := nI (0)) C (D (110, .iconst 0, 1) (mg 54 rfl)) (by decide) ?_
                  refine X_istore (ls' := [some (.ref (wA w (m))), some (.int (nI (z0))), some (.int (c1)), some (.int (c2)), some (.int (c3)), some (.int (c4)), some (.int (c5)), some (.int (c6)), some (.int (nI (0))), some (.int (nI (j)))]) C (D (111, .istore 8, 2) (mg 55 rfl)) (Nat.le_of_ble_eq_true rfl) rfl ?_
                  refine X_iinc (v := nI (j + 1)) (ls' := [some (.ref (wA w (m))), some (.int (nI (z0))), some (.int (c1)), some (.int (c2)), some (.int (c3)), some (.int (c4)), some (.int (c5)), some (.int (c6)), some (.int (nI (0))), some (.int (nI (j + 1)))]) C (D (113, .iinc 9 1, 3) (mg 56 rfl)) rfl (nI_add (j) 1) rfl ?_
                  refine X_goto (tgt := 26) C (D (116, .goto (-90), 3) (mg 57 rfl)) (by decide) ?_
                  refine X_eq (ls' := [some (.ref (wA w (m))), some (.int (nI (z0))), some (.int (c1)), some (.int (c2)), some (.int (c3)), some (.int (c4)), some (.int (c5)), some (.int (c6)), some (.int (nI (0))), some (.int (nI (j + 1)))]) (st' := []) (h' := h) (g' := g) rfl rfl rfl rfl ?_
                  exact ih26 (j + 1) (nI (0)) (by omega) (by decide) (fun u_ => absurd rfl u_) (fun _ u_ => hlf_ ((u_.2.2 j (by omega)).trans (hl j (by omega)).symm)) (by omega)
                · skip
                  have hlt_ : B (tS B n p + j) = s6 c1 c2 c3 c4 c5 c6 j := by rw [s6_0 (by omega)]; exact (hB _ (by omega)).symm.trans q28
                  refine X_iconst (v := nI (1)) C (D (106, .iconst 1, 1) (mg 52 rfl)) (by decide) ?_
                  refine X_goto (tgt := 111) C (D (107, .goto 4, 3) (mg 53 rfl)) (by decide) ?_
                  refine X_istore (ls' := [some (.ref (wA w (m))), some (.int (nI (z0))), some (.int (c1)), some (.int (c2)), some (.int (c3)), some (.int (c4)), some (.int (c5)), some (.int (c6)), some (.int (nI (1))), some (.int (nI (j)))]) C (D (111, .istore 8, 2) (mg 55 rfl)) (Nat.le_of_ble_eq_true rfl) rfl ?_
                  refine X_iinc (v := nI (j + 1)) (ls' := [some (.ref (wA w (m))), some (.int (nI (z0))), some (.int (c1)), some (.int (c2)), some (.int (c3)), some (.int (c4)), some (.int (c5)), some (.int (c6)), some (.int (nI (1))), some (.int (nI (j + 1)))]) C (D (113, .iinc 9 1, 3) (mg 56 rfl)) rfl (nI_add (j) 1) rfl ?_
                  refine X_goto (tgt := 26) C (D (116, .goto (-90), 3) (mg 57 rfl)) (by decide) ?_
                  refine X_eq (ls' := [some (.ref (wA w (m))), some (.int (nI (z0))), some (.int (c1)), some (.int (c2)), some (.int (c3)), some (.int (c4)), some (.int (c5)), some (.int (c6)), some (.int (nI (1))), some (.int (nI (j + 1)))]) (st' := []) (h' := h) (g' := g) rfl rfl rfl rfl ?_
                  exact ih26 (j + 1) (nI (1)) (by omega) (by decide) (fun _ => ⟨hq_.1, hq_.2.1, al_s hq_.2.2 hlt_⟩) (fun u_ => absurd u_ (by decide)) (by omega)
      refine X_eq (ls' := [some (.ref (wA w (m))), some (.int (nI (z0))), some (.int (c1)), some (.int (c2)), some (.int (c3)), some (.int (c4)), some (.int (c5)), some (.int (c6)), some (.int (nI (0))), some (.int (nI (0)))]) (st' := []) (h' := h) (g' := g) rfl rfl rfl rfl ?_
      exact lp26 _ (0) (nI (0)) (by omega) (by decide) (fun u_ => absurd rfl u_) (fun _ u_ => by have a_ := u_.1; have b_ := u_.2.1; omega) (Nat.le_refl _)
    · skip
      have q15 : (tE B n (p) - tS B n (p)) = (z0) := by have z := (nI_eq (a := (tE B n (p) - tS B n (p))) (b := (z0)) (by omega) (by omega)).mp q15; omega
      refine X_iconst (v := nI (1)) C (D (16, .iconst 1, 1) (mg 8 rfl)) (by decide) ?_
      refine X_goto (tgt := 21) C (D (17, .goto 4, 3) (mg 9 rfl)) (by decide) ?_
      refine X_istore (ls' := [some (.ref (wA w (m))), some (.int (nI (z0))), some (.int (c1)), some (.int (c2)), some (.int (c3)), some (.int (c4)), some (.int (c5)), some (.int (c6)), some (.int (nI (1))), none]) C (D (21, .istore 8, 2) (mg 11 rfl)) (Nat.le_of_ble_eq_true rfl) rfl ?_
      refine X_iconst (v := nI (0)) C (D (23, .iconst 0, 1) (mg 12 rfl)) (by decide) ?_
      refine X_istore (ls' := [some (.ref (wA w (m))), some (.int (nI (z0))), some (.int (c1)), some (.int (c2)), some (.int (c3)), some (.int (c4)), some (.int (c5)), some (.int (c6)), some (.int (nI (1))), some (.int (nI (0)))]) C (D (24, .istore 9, 2) (mg 13 rfl)) (Nat.le_of_ble_eq_true rfl) rfl ?_
      have lp26 : ∀ (nn26 : Nat) (j : Nat) (b8 : Int32), (j ≤ z0) → (b8 = 0 ∨ b8 = 1) → (¬ b8 = 0 → tT B n p = 1 ∧ tE B n p - tS B n p = z0 ∧ ∀ k, k < j → B (tS B n p + k) = s6 c1 c2 c3 c4 c5 c6 k) → (b8 = 0 → ¬ isW B n p i) → 7 - j ≤ nn26 → X k w (Zq k w (pP (fun y => (y = 0 ∨ y = 1) ∧ (¬ y = 0 ↔ isW B n p i)) h g)) 26 [some (.ref (wA w (m))), some (.int (nI (z0))), some (.int (c1)), some (.int (c2)), some (.int (c3)), some (.int (c4)), some (.int (c5)), some (.int (c6)), some (.int (b8)), some (.int (nI (j)))] [] h g := by
        intro nn26
        induction nn26 with
        | zero => intro j b8 hc26_0 hc26_1 hc26_2 hc26_3 hz; exact absurd hz (by omega)
        | succ nn26 ih26 =>
          intro j b8 hc26_0 hc26_1 hc26_2 hc26_3 hz26
          refine X_iload C (D (26, .iload 9, 2) (mg 14 rfl)) rfl ?_
          refine X_iload_n C 1 (D (28, .iload_n 1, 1) (mg 15 rfl)) rfl rfl ?_
          refine X_icmp_ge (tgt := 119) C (D (29, .if_icmp .ge 90, 3) (mg 16 rfl)) (by decide) (fun q29 => ?_) (fun q29 => ?_)
          · skip
            have q29 : (j) ≥ (z0) := by have z := (nI_leI (a := (z0)) (b := (j)) (by omega) (by omega)).mp q29; omega
            refine X_iload C (D (119, .iload 8, 2) (mg 58 rfl)) rfl ?_
            exact X_zret C (D (121, .ireturn, 1) (mg 59 rfl)) (nb_01 hc26_1) ⟨⟨_, rfl, hc26_1, ⟨(by first | exact (fun u_ => absurd (by assumption) u_) | exact (fun u_ => ⟨(hc26_2 u_).1, (hc26_2 u_).2.1.trans hz0, fun k hk => ((hc26_2 u_).2.2 k (by omega)).trans (hl k hk)⟩)), fun u_ v_ => hc26_3 v_ u_⟩⟩, rfl, rfl⟩
          · skip
            have q29 : (j) < (z0) := by have z : ¬ ((z0) ≤ (j)) := fun u => q29 ((nI_leI (a := (z0)) (b := (j)) (by omega) (by omega)).mpr u); omega
            refine X_iload C (D (32, .iload 8, 2) (mg 17 rfl)) rfl ?_
            refine X_if_eq (tgt := 119) C (D (34, .ifCond .eq 85, 3) (mg 18 rfl)) (by decide) (fun q30 => ?_) (fun q30 => ?_)
            · skip
              refine X_iload C (D (119, .iload 8, 2) (mg 58 rfl)) rfl ?_
              exact X_zret C (D (121, .ireturn, 1) (mg 59 rfl)) (nb_01 hc26_1) ⟨⟨_, rfl, hc26_1, ⟨(by first | exact (fun u_ => absurd (by assumption) u_) | exact (fun u_ => ⟨(hc26_2 u_).1, (hc26_2 u_).2.1.trans hz0, fun k hk => ((hc26_2 u_).2.2 k (by omega)).trans (hl k hk)⟩)), fun u_ v_ => hc26_3 v_ u_⟩⟩, rfl, rfl⟩
            · skip
              have hq_ := hc26_2 (by assumption)
              have hq2_ := hq_.2.1
              refine X_aload_n C 0 (D (37, .aload_n 0, 1) (mg 19 rfl)) rfl rfl ?_
              refine X_get (v := .ref (wA w (m + 9))) C (m) 10 (by omega) hsm rfl rfl (by decide) inX8 fX8_39 rfl (D (38, .getfield 39, 3) (mg 20 rfl)) rfl ?_
              refine X_aload_n C 0 (D (41, .aload_n 0, 1) (mg 21 rfl)) rfl rfl ?_
              refine X_get (v := .int (h (m) 12)) C (m) 12 (by omega) hsm rfl rfl (by decide) inX8 fX8_250 rfl (D (42, .getfield 250, 3) (mg 22 rfl)) rfl ?_
              refine X_ti (y := nI (tS B n (p))) (ht12) ?_
              refine X_iload C (D (45, .iload 9, 2) (mg 23 rfl)) rfl ?_
              refine X_iadd C (D (47, .iadd, 1) (mg 24 rfl)) ?_
              refine X_ti (y := nI (tS B n (p) + j)) (nI_add (tS B n (p)) (j)) ?_
              refine X_iald (v := h (m + 9) (tS B n (p) + j)) C (m + 9) (by omega) hs9 (vp_in_nI (by omega) (by omega)) (D (48, .iaload, 1) (mg 25 rfl)) (by rw [nI_clamp (by omega)]) ?_
              refine X_iload C (D (49, .iload 9, 2) (mg 26 rfl)) rfl ?_
              refine X_if_ne (tgt := 58) C (D (51, .ifCond .ne 7, 3) (mg 27 rfl)) (by decide) (fun q31 => ?_) (fun q31 => ?_)
              · skip
                have q31 : (j) ≠ (0) := by have z : ¬ ((j) = (0)) := fun u => q31 ((nI_eq (a := (j)) (b := (0)) (by omega) (by omega)).mpr u); omega
                refine X_iload C (D (58, .iload 9, 2) (mg 30 rfl)) rfl ?_
                refine X_iconst (v := nI (1)) C (D (60, .iconst 1, 1) (mg 31 rfl)) (by decide) ?_
                refine X_icmp_ne (tgt := 68) C (D (61, .if_icmp .ne 7, 3) (mg 32 rfl)) (by decide) (fun q32 => ?_) (fun q32 => ?_)
                · skip
                  have q32 : (j) ≠ (1) := by have z : ¬ ((j) = (1)) := fun u => q32 ((nI_eq (a := (j)) (b := (1)) (by omega) (by omega)).mpr u); omega
                  refine X_iload C (D (68, .iload 9, 2) (mg 35 rfl)) rfl ?_
                  refine X_iconst (v := nI (2)) C (D (70, .iconst 2, 1) (mg 36 rfl)) (by decide) ?_
                  refine X_icmp_ne (tgt := 79) C (D (71, .if_icmp .ne 8, 3) (mg 37 rfl)) (by decide) (fun q33 => ?_) (fun q33 => ?_)
                  · skip
                    have q33 : (j) ≠ (2) := by have z : ¬ ((j) = (2)) := fun u => q33 ((nI_eq (a := (j)) (b := (2)) (by omega) (by omega)).mpr u); omega
                    refine X_iload C (D (79, .iload 9, 2) (mg 40 rfl)) rfl ?_
                    refine X_iconst (v := nI (3)) C (D (81, .iconst 3, 1) (mg 41 rfl)) (by decide) ?_
                    refine X_icmp_ne (tgt := 90) C (D (82, .if_icmp .ne 8, 3) (mg 42 rfl)) (by decide) (fun q34 => ?_) (fun q34 => ?_)
                    · skip
                      have q34 : (j) ≠ (3) := by have z : ¬ ((j) = (3)) := fun u => q34 ((nI_eq (a := (j)) (b := (3)) (by omega) (by omega)).mpr u); omega
                      refine X_iload C (D (90, .iload 9, 2) (mg 45 rfl)) rfl ?_
                      refine X_iconst (v := nI (4)) C (D (92, .iconst 4, 1) (mg 46 rfl)) (by decide) ?_
                      refine X_icmp_ne (tgt := 101) C (D (93, .if_icmp .ne 8, 3) (mg 47 rfl)) (by decide) (fun q35 => ?_) (fun q35 => ?_)
                      · skip
                        have q35 : (j) ≠ (4) := by have z : ¬ ((j) = (4)) := fun u => q35 ((nI_eq (a := (j)) (b := (4)) (by omega) (by omega)).mpr u); omega
                        refine X_iload C (D (101, .iload 7, 2) (mg 50 rfl)) rfl ?_
                        refine X_icmp_ne (tgt := 110) C (D (103, .if_icmp .ne 7, 3) (mg 51 rfl)) (by decide) (fun q36 => ?_) (fun q36 => ?_)
                        · skip
                          have hlf_ : ¬ B (tS B n p + j) = s6 c1 c2 c3 c4 c5 c6 j := by rw [s6_5 (by omega)]; exact fun u_ => q36 ((hB _ (by omega)).trans u_)
                          refine X_iconst (v := nI (0)) C (D (110, .iconst 0, 1) (mg 54 rfl)) (by decide) ?_
                          refine X_istore (ls' := [some (.ref (wA w (m))), some (.int (nI (z0))), some (.int (c1)), some (.int (c2)), some (.int (c3)), some (.int (c4)), some (.int (c5)), some (.int (c6)), some (.int (nI (0))), some (.int (nI (j)))]) C (D (111, .istore 8, 2) (mg 55 rfl)) (Nat.le_of_ble_eq_true rfl) rfl ?_
                          refine X_iinc (v := nI (j + 1)) (ls' := [some (.ref (wA w (m))), some (.int (nI (z0))), some (.int (c1)), some (.int (c2)), some (.int (c3)), some (.int (c4)), some (.int (c5)), some (.int (c6)), some (.int (nI (0))), some (.int (nI (j + 1)))]) C (D (113, .iinc 9 1, 3) (mg 56 rfl)) rfl (nI_add (j) 1) rfl ?_
                          refine X_goto (tgt := 26) C (D (116, .goto (-90), 3) (mg 57 rfl)) (by decide) ?_
                          refine X_eq (ls' := [some (.ref (wA w (m))), some (.int (nI (z0))), some (.int (c1)), some (.int (c2)), some (.int (c3)), some (.int (c4)), some (.int (c5)), some (.int (c6)), some (.int (nI (0))), some (.int (nI (j + 1)))]) (st' := []) (h' := h) (g' := g) rfl rfl rfl rfl ?_
                          exact ih26 (j + 1) (nI (0)) (by omega) (by decide) (fun u_ => absurd rfl u_) (fun _ u_ => hlf_ ((u_.2.2 j (by omega)).trans (hl j (by omega)).symm)) (by omega)
                        · skip
                          have hlt_ : B (tS B n p + j) = s6 c1 c2 c3 c4 c5 c6 j := by rw [s6_5 (by omega)]; exact (hB _ (by omega)).symm.trans q36
                          refine X_iconst (v := nI (1)) C (D (106, .iconst 1, 1) (mg 52 rfl)) (by decide) ?_
                          refine X_goto (tgt := 111) C (D (107, .goto 4, 3) (mg 53 rfl)) (by decide) ?_
                          refine X_istore (ls' := [some (.ref (wA w (m))), some (.int (nI (z0))), some (.int (c1)), some (.int (c2)), some (.int (c3)), some (.int (c4)), some (.int (c5)), some (.int (c6)), some (.int (nI (1))), some (.int (nI (j)))]) C (D (111, .istore 8, 2) (mg 55 rfl)) (Nat.le_of_ble_eq_true rfl) rfl ?_
                          refine X_iinc (v := nI (j + 1)) (ls' := [some (.ref (wA w (m))), some (.int (nI (z0))), some (.int (c1)), some (.int (c2)), some (.int (c3)), some (.int (c4)), some (.int (c5)), some (.int (c6)), some (.int (nI (1))), some (.int (nI (j + 1)))]) C (D (113, .iinc 9 1, 3) (mg 56 rfl)) rfl (nI_add (j) 1) rfl ?_
                          refine X_goto (tgt := 26) C (D (116, .goto (-90), 3) (mg 57 rfl)) (by decide) ?_
                          refine X_eq (ls' := [some (.ref (wA w (m))), some (.int (nI (z0))), some (.int (c1)), some (.int (c2)), some (.int (c3)), some (.int (c4)), some (.int (c5)), some (.int (c6)), some (.int (nI (1))), some (.int (nI (j + 1)))]) (st' := []) (h' := h) (g' := g) rfl rfl rfl rfl ?_
                          exact ih26 (j + 1) (nI (1)) (by omega) (by decide) (fun _ => ⟨hq_.1, hq_.2.1, al_s hq_.2.2 hlt_⟩) (fun u_ => absurd u_ (by decide)) (by omega)
                      · skip
                        have q35 : (j) = (4) := by have z := (nI_eq (a := (j)) (b := (4)) (by omega) (by omega)).mp q35; omega
                        refine X_iload C (D (96, .iload 6, 2) (mg 48 rfl)) rfl ?_
                        refine X_goto (tgt := 103) C (D (98, .goto 5, 3) (mg 49 rfl)) (by decide) ?_
                        refine X_icmp_ne (tgt := 110) C (D (103, .if_icmp .ne 7, 3) (mg 51 rfl)) (by decide) (fun q37 => ?_) (fun q37 => ?_)
                        · skip
                          have hlf_ : ¬ B (tS B n p + j) = s6 c1 c2 c3 c4 c5 c6 j := by rw [s6_4 (by omega)]; exact fun u_ => q37 ((hB _ (by omega)).trans u_)
                          refine X_iconst (v := nI (0)) C (D (110, .iconst 0, 1) (mg 54 rfl)) (by decide) ?_
                          refine X_istore (ls' := [some (.ref (wA w (m))), some (.int (nI (z0))), some (.int (c1)), some (.int (c2)), some (.int (c3)), some (.int (c4)), some (.int (c5)), some (.int (c6)), some (.int (nI (0))), some (.int (nI (j)))]) C (D (111, .istore 8, 2) (mg 55 rfl)) (Nat.le_of_ble_eq_true rfl) rfl ?_
                          refine X_iinc (v := nI (j + 1)) (ls' := [some (.ref (wA w (m))), some (.int (nI (z0))), some (.int (c1)), some (.int (c2)), some (.int (c3)), some (.int (c4)), some (.int (c5)), some (.int (c6)), some (.int (nI (0))), some (.int (nI (j + 1)))]) C (D (113, .iinc 9 1, 3) (mg 56 rfl)) rfl (nI_add (j) 1) rfl ?_
                          refine X_goto (tgt := 26) C (D (116, .goto (-90), 3) (mg 57 rfl)) (by decide) ?_
                          refine X_eq (ls' := [some (.ref (wA w (m))), some (.int (nI (z0))), some (.int (c1)), some (.int (c2)), some (.int (c3)), some (.int (c4)), some (.int (c5)), some (.int (c6)), some (.int (nI (0))), some (.int (nI (j + 1)))]) (st' := []) (h' := h) (g' := g) rfl rfl rfl rfl ?_
                          exact ih26 (j + 1) (nI (0)) (by omega) (by decide) (fun u_ => absurd rfl u_) (fun _ u_ => hlf_ ((u_.2.2 j (by omega)).trans (hl j (by omega)).symm)) (by omega)
                        · skip
                          have hlt_ : B (tS B n p + j) = s6 c1 c2 c3 c4 c5 c6 j := by rw [s6_4 (by omega)]; exact (hB _ (by omega)).symm.trans q37
                          refine X_iconst (v := nI (1)) C (D (106, .iconst 1, 1) (mg 52 rfl)) (by decide) ?_
                          refine X_goto (tgt := 111) C (D (107, .goto 4, 3) (mg 53 rfl)) (by decide) ?_
                          refine X_istore (ls' := [some (.ref (wA w (m))), some (.int (nI (z0))), some (.int (c1)), some (.int (c2)), some (.int (c3)), some (.int (c4)), some (.int (c5)), some (.int (c6)), some (.int (nI (1))), some (.int (nI (j)))]) C (D (111, .istore 8, 2) (mg 55 rfl)) (Nat.le_of_ble_eq_true rfl) rfl ?_
                          refine X_iinc (v := nI (j + 1)) (ls' := [some (.ref (wA w (m))), some (.int (nI (z0))), some (.int (c1)), some (.int (c2)), some (.int (c3)), some (.int (c4)), some (.int (c5)), some (.int (c6)), some (.int (nI (1))), some (.int (nI (j + 1)))]) C (D (113, .iinc 9 1, 3) (mg 56 rfl)) rfl (nI_add (j) 1) rfl ?_
                          refine X_goto (tgt := 26) C (D (116, .goto (-90), 3) (mg 57 rfl)) (by decide) ?_
                          refine X_eq (ls' := [some (.ref (wA w (m))), some (.int (nI (z0))), some (.int (c1)), some (.int (c2)), some (.int (c3)), some (.int (c4)), some (.int (c5)), some (.int (c6)), some (.int (nI (1))), some (.int (nI (j + 1)))]) (st' := []) (h' := h) (g' := g) rfl rfl rfl rfl ?_
                          exact ih26 (j + 1) (nI (1)) (by omega) (by decide) (fun _ => ⟨hq_.1, hq_.2.1, al_s hq_.2.2 hlt_⟩) (fun u_ => absurd u_ (by decide)) (by omega)
                    · skip
                      have q34 : (j) = (3) := by have z := (nI_eq (a := (j)) (b := (3)) (by omega) (by omega)).mp q34; omega
                      refine X_iload C (D (85, .iload 5, 2) (mg 43 rfl)) rfl ?_
                      refine X_goto (tgt := 103) C (D (87, .goto 16, 3) (mg 44 rfl)) (by decide) ?_
                      refine X_icmp_ne (tgt := 110) C (D (103, .if_icmp .ne 7, 3) (mg 51 rfl)) (by decide) (fun q38 => ?_) (fun q38 => ?_)
                      · skip
                        have hlf_ : ¬ B (tS B n p + j) = s6 c1 c2 c3 c4 c5 c6 j := by rw [s6_3 (by omega)]; exact fun u_ => q38 ((hB _ (by omega)).trans u_)
                        refine X_iconst (v := nI (0)) C (D (110, .iconst 0, 1) (mg 54 rfl)) (by decide) ?_
                        refine X_istore (ls' := [some (.ref (wA w (m))), some (.int (nI (z0))), some (.int (c1)), some (.int (c2)), some (.int (c3)), some (.int (c4)), some (.int (c5)), some (.int (c6)), some (.int (nI (0))), some (.int (nI (j)))]) C (D (111, .istore 8, 2) (mg 55 rfl)) (Nat.le_of_ble_eq_true rfl) rfl ?_
                        refine X_iinc (v := nI (j + 1)) (ls' := [some (.ref (wA w (m))), some (.int (nI (z0))), some (.int (c1)), some (.int (c2)), some (.int (c3)), some (.int (c4)), some (.int (c5)), some (.int (c6)), some (.int (nI (0))), some (.int (nI (j + 1)))]) C (D (113, .iinc 9 1, 3) (mg 56 rfl)) rfl (nI_add (j) 1) rfl ?_
                        refine X_goto (tgt := 26) C (D (116, .goto (-90), 3) (mg 57 rfl)) (by decide) ?_
                        refine X_eq (ls' := [some (.ref (wA w (m))), some (.int (nI (z0))), some (.int (c1)), some (.int (c2)), some (.int (c3)), some (.int (c4)), some (.int (c5)), some (.int (c6)), some (.int (nI (0))), some (.int (nI (j + 1)))]) (st' := []) (h' := h) (g' := g) rfl rfl rfl rfl ?_
                        exact ih26 (j + 1) (nI (0)) (by omega) (by decide) (fun u_ => absurd rfl u_) (fun _ u_ => hlf_ ((u_.2.2 j (by omega)).trans (hl j (by omega)).symm)) (by omega)
                      · skip
                        have hlt_ : B (tS B n p + j) = s6 c1 c2 c3 c4 c5 c6 j := by rw [s6_3 (by omega)]; exact (hB _ (by omega)).symm.trans q38
                        refine X_iconst (v := nI (1)) C (D (106, .iconst 1, 1) (mg 52 rfl)) (by decide) ?_
                        refine X_goto (tgt := 111) C (D (107, .goto 4, 3) (mg 53 rfl)) (by decide) ?_
                        refine X_istore (ls' := [some (.ref (wA w (m))), some (.int (nI (z0))), some (.int (c1)), some (.int (c2)), some (.int (c3)), some (.int (c4)), some (.int (c5)), some (.int (c6)), some (.int (nI (1))), some (.int (nI (j)))]) C (D (111, .istore 8, 2) (mg 55 rfl)) (Nat.le_of_ble_eq_true rfl) rfl ?_
                        refine X_iinc (v := nI (j + 1)) (ls' := [some (.ref (wA w (m))), some (.int (nI (z0))), some (.int (c1)), some (.int (c2)), some (.int (c3)), some (.int (c4)), some (.int (c5)), some (.int (c6)), some (.int (nI (1))), some (.int (nI (j + 1)))]) C (D (113, .iinc 9 1, 3) (mg 56 rfl)) rfl (nI_add (j) 1) rfl ?_
                        refine X_goto (tgt := 26) C (D (116, .goto (-90), 3) (mg 57 rfl)) (by decide) ?_
                        refine X_eq (ls' := [some (.ref (wA w (m))), some (.int (nI (z0))), some (.int (c1)), some (.int (c2)), some (.int (c3)), some (.int (c4)), some (.int (c5)), some (.int (c6)), some (.int (nI (1))), some (.int (nI (j + 1)))]) (st' := []) (h' := h) (g' := g) rfl rfl rfl rfl ?_
                        exact ih26 (j + 1) (nI (1)) (by omega) (by decide) (fun _ => ⟨hq_.1, hq_.2.1, al_s hq_.2.2 hlt_⟩) (fun u_ => absurd u_ (by decide)) (by omega)
                  · skip
                    have q33 : (j) = (2) := by have z := (nI_eq (a := (j)) (b := (2)) (by omega) (by omega)).mp q33; omega
                    refine X_iload C (D (74, .iload 4, 2) (mg 38 rfl)) rfl ?_
                    refine X_goto (tgt := 103) C (D (76, .goto 27, 3) (mg 39 rfl)) (by decide) ?_
                    refine X_icmp_ne (tgt := 110) C (D (103, .if_icmp .ne 7, 3) (mg 51 rfl)) (by decide) (fun q39 => ?_) (fun q39 => ?_)
                    · skip
                      have hlf_ : ¬ B (tS B n p + j) = s6 c1 c2 c3 c4 c5 c6 j := by rw [s6_2 (by omega)]; exact fun u_ => q39 ((hB _ (by omega)).trans u_)
                      refine X_iconst (v := nI (0)) C (D (110, .iconst 0, 1) (mg 54 rfl)) (by decide) ?_
                      refine X_istore (ls' := [some (.ref (wA w (m))), some (.int (nI (z0))), some (.int (c1)), some (.int (c2)), some (.int (c3)), some (.int (c4)), some (.int (c5)), some (.int (c6)), some (.int (nI (0))), some (.int (nI (j)))]) C (D (111, .istore 8, 2) (mg 55 rfl)) (Nat.le_of_ble_eq_true rfl) rfl ?_
                      refine X_iinc (v := nI (j + 1)) (ls' := [some (.ref (wA w (m))), some (.int (nI (z0))), some (.int (c1)), some (.int (c2)), some (.int (c3)), some (.int (c4)), some (.int (c5)), some (.int (c6)), some (.int (nI (0))), some (.int (nI (j + 1)))]) C (D (113, .iinc 9 1, 3) (mg 56 rfl)) rfl (nI_add (j) 1) rfl ?_
                      refine X_goto (tgt := 26) C (D (116, .goto (-90), 3) (mg 57 rfl)) (by decide) ?_
                      refine X_eq (ls' := [some (.ref (wA w (m))), some (.int (nI (z0))), some (.int (c1)), some (.int (c2)), some (.int (c3)), some (.int (c4)), some (.int (c5)), some (.int (c6)), some (.int (nI (0))), some (.int (nI (j + 1)))]) (st' := []) (h' := h) (g' := g) rfl rfl rfl rfl ?_
                      exact ih26 (j + 1) (nI (0)) (by omega) (by decide) (fun u_ => absurd rfl u_) (fun _ u_ => hlf_ ((u_.2.2 j (by omega)).trans (hl j (by omega)).symm)) (by omega)
                    · skip
                      have hlt_ : B (tS B n p + j) = s6 c1 c2 c3 c4 c5 c6 j := by rw [s6_2 (by omega)]; exact (hB _ (by omega)).symm.trans q39
                      refine X_iconst (v := nI (1)) C (D (106, .iconst 1, 1) (mg 52 rfl)) (by decide) ?_
                      refine X_goto (tgt := 111) C (D (107, .goto 4, 3) (mg 53 rfl)) (by decide) ?_
                      refine X_istore (ls' := [some (.ref (wA w (m))), some (.int (nI (z0))), some (.int (c1)), some (.int (c2)), some (.int (c3)), some (.int (c4)), some (.int (c5)), some (.int (c6)), some (.int (nI (1))), some (.int (nI (j)))]) C (D (111, .istore 8, 2) (mg 55 rfl)) (Nat.le_of_ble_eq_true rfl) rfl ?_
                      refine X_iinc (v := nI (j + 1)) (ls' := [some (.ref (wA w (m))), some (.int (nI (z0))), some (.int (c1)), some (.int (c2)), some (.int (c3)), some (.int (c4)), some (.int (c5)), some (.int (c6)), some (.int (nI (1))), some (.int (nI (j + 1)))]) C (D (113, .iinc 9 1, 3) (mg 56 rfl)) rfl (nI_add (j) 1) rfl ?_
                      refine X_goto (tgt := 26) C (D (116, .goto (-90), 3) (mg 57 rfl)) (by decide) ?_
                      refine X_eq (ls' := [some (.ref (wA w (m))), some (.int (nI (z0))), some (.int (c1)), some (.int (c2)), some (.int (c3)), some (.int (c4)), some (.int (c5)), some (.int (c6)), some (.int (nI (1))), some (.int (nI (j + 1)))]) (st' := []) (h' := h) (g' := g) rfl rfl rfl rfl ?_
                      exact ih26 (j + 1) (nI (1)) (by omega) (by decide) (fun _ => ⟨hq_.1, hq_.2.1, al_s hq_.2.2 hlt_⟩) (fun u_ => absurd u_ (by decide)) (by omega)
                · skip
                  have q32 : (j) = (1) := by have z := (nI_eq (a := (j)) (b := (1)) (by omega) (by omega)).mp q32; omega
                  refine X_iload_n C 3 (D (64, .iload_n 3, 1) (mg 33 rfl)) rfl rfl ?_
                  refine X_goto (tgt := 103) C (D (65, .goto 38, 3) (mg 34 rfl)) (by decide) ?_
                  refine X_icmp_ne (tgt := 110) C (D (103, .if_icmp .ne 7, 3) (mg 51 rfl)) (by decide) (fun q40 => ?_) (fun q40 => ?_)
                  · skip
                    have hlf_ : ¬ B (tS B n p + j) = s6 c1 c2 c3 c4 c5 c6 j := by rw [s6_1 (by omega)]; exact fun u_ => q40 ((hB _ (by omega)).trans u_)
                    refine X_iconst (v := nI (0)) C (D (110, .iconst 0, 1) (mg 54 rfl)) (by decide) ?_
                    refine X_istore (ls' := [some (.ref (wA w (m))), some (.int (nI (z0))), some (.int (c1)), some (.int (c2)), some (.int (c3)), some (.int (c4)), some (.int (c5)), some (.int (c6)), some (.int (nI (0))), some (.int (nI (j)))]) C (D (111, .istore 8, 2) (mg 55 rfl)) (Nat.le_of_ble_eq_true rfl) rfl ?_
                    refine X_iinc (v := nI (j + 1)) (ls' := [some (.ref (wA w (m))), some (.int (nI (z0))), some (.int (c1)), some (.int (c2)), some (.int (c3)), some (.int (c4)), some (.int (c5)), some (.int (c6)), some (.int (nI (0))), some (.int (nI (j + 1)))]) C (D (113, .iinc 9 1, 3) (mg 56 rfl)) rfl (nI_add (j) 1) rfl ?_
                    refine X_goto (tgt := 26) C (D (116, .goto (-90), 3) (mg 57 rfl)) (by decide) ?_
                    refine X_eq (ls' := [some (.ref (wA w (m))), some (.int (nI (z0))), some (.int (c1)), some (.int (c2)), some (.int (c3)), some (.int (c4)), some (.int (c5)), some (.int (c6)), some (.int (nI (0))), some (.int (nI (j + 1)))]) (st' := []) (h' := h) (g' := g) rfl rfl rfl rfl ?_
                    exact ih26 (j + 1) (nI (0)) (by omega) (by decide) (fun u_ => absurd rfl u_) (fun _ u_ => hlf_ ((u_.2.2 j (by omega)).trans (hl j (by omega)).symm)) (by omega)
                  · skip
                    have hlt_ : B (tS B n p + j) = s6 c1 c2 c3 c4 c5 c6 j := by rw [s6_1 (by omega)]; exact (hB _ (by omega)).symm.trans q40
                    refine X_iconst (v := nI (1)) C (D (106, .iconst 1, 1) (mg 52 rfl)) (by decide) ?_
                    refine X_goto (tgt := 111) C (D (107, .goto 4, 3) (mg 53 rfl)) (by decide) ?_
                    refine X_istore (ls' := [some (.ref (wA w (m))), some (.int (nI (z0))), some (.int (c1)), some (.int (c2)), some (.int (c3)), some (.int (c4)), some (.int (c5)), some (.int (c6)), some (.int (nI (1))), some (.int (nI (j)))]) C (D (111, .istore 8, 2) (mg 55 rfl)) (Nat.le_of_ble_eq_true rfl) rfl ?_
                    refine X_iinc (v := nI (j + 1)) (ls' := [some (.ref (wA w (m))), some (.int (nI (z0))), some (.int (c1)), some (.int (c2)), some (.int (c3)), some (.int (c4)), some (.int (c5)), some (.int (c6)), some (.int (nI (1))), some (.int (nI (j + 1)))]) C (D (113, .iinc 9 1, 3) (mg 56 rfl)) rfl (nI_add (j) 1) rfl ?_
                    refine X_goto (tgt := 26) C (D (116, .goto (-90), 3) (mg 57 rfl)) (by decide) ?_
                    refine X_eq (ls' := [some (.ref (wA w (m))), some (.int (nI (z0))), some (.int (c1)), some (.int (c2)), some (.int (c3)), some (.int (c4)), some (.int (c5)), some (.int (c6)), some (.int (nI (1))), some (.int (nI (j + 1)))]) (st' := []) (h' := h) (g' := g) rfl rfl rfl rfl ?_
                    exact ih26 (j + 1) (nI (1)) (by omega) (by decide) (fun _ => ⟨hq_.1, hq_.2.1, al_s hq_.2.2 hlt_⟩) (fun u_ => absurd u_ (by decide)) (by omega)
              · skip
                have q31 : (j) = (0) := by have z := (nI_eq (a := (j)) (b := (0)) (by omega) (by omega)).mp q31; omega
                refine X_iload_n C 2 (D (54, .iload_n 2, 1) (mg 28 rfl)) rfl rfl ?_
                refine X_goto (tgt := 103) C (D (55, .goto 48, 3) (mg 29 rfl)) (by decide) ?_
                refine X_icmp_ne (tgt := 110) C (D (103, .if_icmp .ne 7, 3) (mg 51 rfl)) (by decide) (fun q41 => ?_) (fun q41 => ?_)
                · skip
                  have hlf_ : ¬ B (tS B n p + j) = s6 c1 c2 c3 c4 c5 c6 j := by rw [s6_0 (by omega)]; exact fun u_ => q41 ((hB _ (by omega)).trans u_)
                  refine X_iconst (v := nI (0)) C (D (110, .iconst 0, 1) (mg 54 rfl)) (by decide) ?_
                  refine X_istore (ls' := [some (.ref (wA w (m))), some (.int (nI (z0))), some (.int (c1)), some (.int (c2)), some (.int (c3)), some (.int (c4)), some (.int (c5)), some (.int (c6)), some (.int (nI (0))), some (.int (nI (j)))]) C (D (111, .istore 8, 2) (mg 55 rfl)) (Nat.le_of_ble_eq_true rfl) rfl ?_
                  refine X_iinc (v := nI (j + 1)) (ls' := [some (.ref (wA w (m))), some (.int (nI (z0))), some (.int (c1)), some (.int (c2)), some (.int (c3)), some (.int (c4)), some (.int (c5)), some (.int (c6)), some (.int (nI (0))), some (.int (nI (j + 1)))]) C (D (113, .iinc 9 1, 3) (mg 56 rfl)) rfl (nI_add (j) 1) rfl ?_
                  refine X_goto (tgt := 26) C (D (116, .goto (-90), 3) (mg 57 rfl)) (by decide) ?_
                  refine X_eq (ls' := [some (.ref (wA w (m))), some (.int (nI (z0))), some (.int (c1)), some (.int (c2)), some (.int (c3)), some (.int (c4)), some (.int (c5)), some (.int (c6)), some (.int (nI (0))), some (.int (nI (j + 1)))]) (st' := []) (h' := h) (g' := g) rfl rfl rfl rfl ?_
                  exact ih26 (j + 1) (nI (0)) (by omega) (by decide) (fun u_ => absurd rfl u_) (fun _ u_ => hlf_ ((u_.2.2 j (by omega)).trans (hl j (by omega)).symm)) (by omega)
                · skip
                  have hlt_ : B (tS B n p + j) = s6 c1 c2 c3 c4 c5 c6 j := by rw [s6_0 (by omega)]; exact (hB _ (by omega)).symm.trans q41
                  refine X_iconst (v := nI (1)) C (D (106, .iconst 1, 1) (mg 52 rfl)) (by decide) ?_
                  refine X_goto (tgt := 111) C (D (107, .goto 4, 3) (mg 53 rfl)) (by decide) ?_
                  refine X_istore (ls' := [some (.ref (wA w (m))), some (.int (nI (z0))), some (.int (c1)), some (.int (c2)), some (.int (c3)), some (.int (c4)), some (.int (c5)), some (.int (c6)), some (.int (nI (1))), some (.int (nI (j)))]) C (D (111, .istore 8, 2) (mg 55 rfl)) (Nat.le_of_ble_eq_true rfl) rfl ?_
                  refine X_iinc (v := nI (j + 1)) (ls' := [some (.ref (wA w (m))), some (.int (nI (z0))), some (.int (c1)), some (.int (c2)), some (.int (c3)), some (.int (c4)), some (.int (c5)), some (.int (c6)), some (.int (nI (1))), some (.int (nI (j + 1)))]) C (D (113, .iinc 9 1, 3) (mg 56 rfl)) rfl (nI_add (j) 1) rfl ?_
                  refine X_goto (tgt := 26) C (D (116, .goto (-90), 3) (mg 57 rfl)) (by decide) ?_
                  refine X_eq (ls' := [some (.ref (wA w (m))), some (.int (nI (z0))), some (.int (c1)), some (.int (c2)), some (.int (c3)), some (.int (c4)), some (.int (c5)), some (.int (c6)), some (.int (nI (1))), some (.int (nI (j + 1)))]) (st' := []) (h' := h) (g' := g) rfl rfl rfl rfl ?_
                  exact ih26 (j + 1) (nI (1)) (by omega) (by decide) (fun _ => ⟨hq_.1, hq_.2.1, al_s hq_.2.2 hlt_⟩) (fun u_ => absurd u_ (by decide)) (by omega)
      refine X_eq (ls' := [some (.ref (wA w (m))), some (.int (nI (z0))), some (.int (c1)), some (.int (c2)), some (.int (c3)), some (.int (c4)), some (.int (c5)), some (.int (c6)), some (.int (nI (1))), some (.int (nI (0)))]) (st' := []) (h' := h) (g' := g) rfl rfl rfl rfl ?_
      exact lp26 _ (0) (nI (1)) (by omega) (by decide) (fun _ => ⟨by omega, by omega, fun k hk => absurd hk (by omega)⟩) (fun u_ => absurd u_ (by decide)) (Nat.le_refl _)
set_option maxHeartbeats 4000000 in
set_option maxRecDepth 100000 in
theorem cx_X8_takes {l : Launch} {w : Kw} (hw : wOk w) {m : Nat} (hM : shM w m) {B : Nat → Int32} {n p : Nat} (hn : n ≤ 150) (hp : p ≤ n) {K A Cm : Nat} (hK : K < 2) (hAC : A < 2147483648 ∧ Cm < 2147483647) (h : xI) (g : xJ) (hb : h m 11 = nI n) (hB : ∀ i, i < n → h (m + 9) i = B i) (hk : kM B n p m h) : Ct l w yX8_takes cX8_takes 4 (some .boolean) 4 89 [.ref (wA w (m)), .int (nI (K)), .int (nI (A)), .int (nI (Cm))] h g (fun v h' _ => ∃ y : Int32, v = some (.int y) ∧ (y = 0 ∨ y = 1) ∧ (¬ y = 0 ↔ isN B n p A Cm) ∧ (∀ q i, (q ≠ m ∨ i < 12 ∨ 15 < i) → (q ≠ m + 11 ∨ i ≠ K) → h' q i = h q i) ∧ (¬ y = 0 → kM B n (tE B n p) m h' ∧ h' (m + 11) K = nI (nV B n p)) ∧ (y = 0 → h' = h)) := by
  refine Ct_of (ls := [some (.ref (wA w (m))), some (.int (nI (K))), some (.int (nI (A))), some (.int (nI (Cm)))]) (by decide) hw (Nat.le_of_ble_eq_true rfl) rfl (fun k hkl C => ?_)
  have C : Cx k w cX8_takes RX8 4 (some .boolean) 4 89 := C
  have D := dtX8_takes
  subst hkl
  have hM0 := hM
  obtain ⟨hm, hsm, hs1, hs2, hs3, hs4, hs5, hs6, hs7, hs8, hs9, hs10, hs11⟩ := hM
  have hM := hM0
  obtain ⟨ht12, ht13, ht14, ht15⟩ := hk
  have hle0 : tE B n p ≤ n := tE_le hp
  have hse0 := tSE B n p
  have hty0 := tT_le B n p
  refine X_aload_n C 0 (D (0, .aload_n 0, 1) (mg 0 rfl)) rfl rfl ?_
  refine X_get (v := .int (h (m) 14)) C (m) 14 (by omega) hsm rfl rfl (by decide) inX8 fX8_256 rfl (D (1, .getfield 256, 3) (mg 1 rfl)) rfl ?_
  refine X_ti (y := nI (tT B n (p))) (ht14) ?_
  refine X_iconst (v := nI (2)) C (D (4, .iconst 2, 1) (mg 2 rfl)) (by decide) ?_
  refine X_icmp_ne (tgt := 23) C (D (5, .if_icmp .ne 18, 3) (mg 3 rfl)) (by decide) (fun q1 => ?_) (fun q1 => ?_)
  · skip
    have q1 : (tT B n (p)) ≠ (2) := by have z : ¬ ((tT B n (p)) = (2)) := fun u => q1 ((nI_eq (a := (tT B n (p))) (b := (2)) (by omega) (by omega)).mpr u); omega
    refine X_iconst (v := nI (0)) C (D (23, .iconst 0, 1) (mg 13 rfl)) (by decide) ?_
    exact X_zret C (D (24, .ireturn, 1) (mg 14 rfl)) rfl ⟨_, rfl, Or.inl rfl, ⟨fun u_ => absurd rfl u_, fun u_ => absurd u_ (by first | exact isN_2 (by assumption) | exact (fun v_ => (by assumption : ¬ ((A : Int) ≤ (tV B n (p)).toInt ∧ (tV B n (p)).toInt ≤ (Cm : Int))) v_.2))⟩, fun q i z z2 => rfl, fun u_ => absurd rfl u_, fun _ => rfl⟩
  · skip
    have q1 : (tT B n (p)) = (2) := by have z := (nI_eq (a := (tT B n (p))) (b := (2)) (by omega) (by omega)).mp q1; omega
    refine X_aload_n C 0 (D (8, .aload_n 0, 1) (mg 4 rfl)) rfl rfl ?_
    refine X_get (v := .int (h (m) 15)) C (m) 15 (by omega) hsm rfl rfl (by decide) inX8 fX8_259 rfl (D (9, .getfield 259, 3) (mg 5 rfl)) rfl ?_
    refine X_ti (y := tV B n (p)) ((ht15 q1)) ?_
    refine X_i2l C (D (12, .i2l, 1) (mg 6 rfl)) ?_
    refine X_iload_n C 2 (D (13, .iload_n 2, 1) (mg 7 rfl)) rfl rfl ?_
    refine X_i2l C (D (14, .i2l, 1) (mg 8 rfl)) ?_
    refine X_tl (y := lN (A)) (nI_l (by omega)) ?_
    refine X_iload_n C 3 (D (15, .iload_n 3, 1) (mg 9 rfl)) rfl rfl ?_
    refine X_i2l C (D (16, .i2l, 1) (mg 10 rfl)) ?_
    refine X_tl (y := lN (Cm)) (nI_l (by omega)) ?_
    refine X_cS (As := [.long ((tV B n (p)).toInt64), .long (lN (A)), .long (lN (Cm))]) (st := []) C (post := _) (ct_X8_in hw ((tV B n (p)).toInt64) (lN (A)) (lN (Cm)) h g) kX8_54 (by decide) (by decide) rfl rfl (Nat.le_of_ble_eq_true rfl) (D (17, .invokestatic 54, 3) (mg 11 rfl)) rfl (fun v4 H2 G3 hv4 => ?_)
    obtain ⟨rfl, rfl, rfl⟩ := hv4
    show X k w _ 20 [some (.ref (wA w (m))), some (.int (nI (K))), some (.int (nI (A))), some (.int (nI (Cm)))] [.int (if (lN (A)).toInt ≤ ((tV B n (p)).toInt64).toInt ∧ ((tV B n (p)).toInt64).toInt ≤ (lN (Cm)).toInt then 1 else 0)] h g
    refine X_if_ne (tgt := 25) C (D (20, .ifCond .ne 5, 3) (mg 12 rfl)) (by decide) (fun q5 => ?_) (fun q5 => ?_)
    · skip
      have q5 : ((lN (A)).toInt ≤ ((tV B n (p)).toInt64).toInt ∧ ((tV B n (p)).toInt64).toInt ≤ (lN (Cm)).toInt) := bz1.mp q5
      simp only [i6, pk_lT (n := A) (by omega), pk_lT (n := Cm) (by omega)] at q5
      have hN_ : isN B n p A Cm := ⟨by assumption, q5.1, q5.2⟩
      obtain ⟨hlv6, huv6, ev6⟩ := isN_v hN_
      have evv6 : h m 15 = nI (nV B n (p)) := (ht15 hN_.1).trans ev6
      refine X_aload_n C 0 (D (25, .aload_n 0, 1) (mg 15 rfl)) rfl rfl ?_
      refine X_get (v := .ref (wA w (m + 11))) C (m) 17 (by omega) hsm rfl rfl (by decide) inX8 fX8_45 rfl (D (26, .getfield 45, 3) (mg 16 rfl)) rfl ?_
      refine X_iload_n C 1 (D (29, .iload_n 1, 1) (mg 17 rfl)) rfl rfl ?_
      refine X_aload_n C 0 (D (30, .aload_n 0, 1) (mg 18 rfl)) rfl rfl ?_
      refine X_get (v := .int (h (m) 15)) C (m) 15 (by omega) hsm rfl rfl (by decide) inX8 fX8_259 rfl (D (31, .getfield 259, 3) (mg 19 rfl)) rfl ?_
      refine X_ti (y := nI (nV B n (p))) (evv6) ?_
      refine X_iast (j := K) C (m + 11) (by omega) hs11 (vp_in_nI (by omega) (by omega)) (D (34, .iastore, 1) (mg 20 rfl)) (nI_clamp (by omega)) ?_
      refine X_aload_n C 0 (D (35, .aload_n 0, 1) (mg 21 rfl)) rfl rfl ?_
      refine X_cV (As := []) (st := []) C (post := _) (m) (by omega) hsm rfl (cx_X8_goBehind hw hM (B := B) (n := n) (p := p) hn (by omega) (u2 h (m + 11) (K) (nI (nV B n (p)))) g (((u2_p _ _ _ _ (by omega))).trans hb) (fun i hi => by rw [u2_ne _ _ _ _ (by omega)]; exact hB i hi) ⟨(((u2_p _ _ _ _ (by omega))).trans ht12), (((u2_p _ _ _ _ (by omega))).trans ht13), (((u2_p _ _ _ _ (by omega))).trans ht14), (fun w => by rw [u2_ne _ _ _ _ (by omega)]; exact ht15 w)⟩) kX8_271 (by decide) (by decide) rfl rfl (Nat.le_of_ble_eq_true rfl) (D (36, .invokevirtual 271, 3) (mg 22 rfl)) rfl (fun v9 H7 G8 hv9 => ?_)
      obtain ⟨rfl, f10, ae11, be11, ce11, de11⟩ := hv9
      have hpe11 : tE B n (p) ≤ n := by omega
      have hle11 : tE B n (tE B n (p)) ≤ n := tE_le (by omega)
      have hse11 := tSE B n (tE B n (p))
      have hme11 := tT_le B n (tE B n (p))
      have hge11 := tE_ge B n (tE B n (p))
      show X k w _ 39 [some (.ref (wA w (m))), some (.int (nI (K))), some (.int (nI (A))), some (.int (nI (Cm)))] [] H7 G8
      refine X_iconst (v := nI (1)) C (D (39, .iconst 1, 1) (mg 23 rfl)) (by decide) ?_
      exact X_zret C (D (40, .ireturn, 1) (mg 24 rfl)) rfl ⟨_, rfl, Or.inr rfl, ⟨fun _ => hN_, fun _ => by decide⟩, fun q i z z2 => by rw [f10 _ _ (by omega), u2_ne _ _ _ _ (by omega)], fun _ => ⟨⟨(ae11), (be11), (ce11), de11⟩, (((f10 _ _ (by omega))).trans (u2_s _ _ _ _))⟩, fun u_ => absurd u_ (by decide)⟩
    · skip
      have q5 : ¬ ((lN (A)).toInt ≤ ((tV B n (p)).toInt64).toInt ∧ ((tV B n (p)).toInt64).toInt ≤ (lN (Cm)).toInt) := bz0.mp q5
      simp only [i6, pk_lT (n := A) (by omega), pk_lT (n := Cm) (by omega)] at q5
      refine X_iconst (v := nI (0)) C (D (23, .iconst 0, 1) (mg 13 rfl)) (by decide) ?_
      exact X_zret C (D (24, .ireturn, 1) (mg 14 rfl)) rfl ⟨_, rfl, Or.inl rfl, ⟨fun u_ => absurd rfl u_, fun u_ => absurd u_ (by first | exact isN_2 (by assumption) | exact (fun v_ => (by assumption : ¬ ((A : Int) ≤ (tV B n (p)).toInt ∧ (tV B n (p)).toInt ≤ (Cm : Int))) v_.2))⟩, fun q i z z2 => rfl, fun u_ => absurd rfl u_, fun _ => rfl⟩
