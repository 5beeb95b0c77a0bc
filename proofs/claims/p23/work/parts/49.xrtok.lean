/-! PHASE 2, THE REFERENCE: TOKENs, exact -/
def tY (B : Nat → Int32) (s : Nat) : Nat := if isLe (B s) = true then 1 else if isFi (B s) = true then 2 else if B s = 59 then 3 else 4
theorem bf_n {b : Bool} (h : b = false) : ¬ b = true := by rw [h]; decide
theorem ty_1 {B : Nat → Int32} {s : Nat} (h : isLe (B s) = true) : tY B s = 1 := if_pos h
theorem ty_2 {B : Nat → Int32} {s : Nat} (h : isLe (B s) = false) (h2 : isFi (B s) = true) : tY B s = 2 := (if_neg (bf_n h)).trans (if_pos h2)
theorem ty_3 {B : Nat → Int32} {s : Nat} (h : isLe (B s) = false) (h2 : isFi (B s) = false) (h3 : B s = nI 59) : tY B s = 3 := (if_neg (bf_n h)).trans ((if_neg (bf_n h2)).trans (if_pos h3))
theorem ty_4 {B : Nat → Int32} {s : Nat} (h : isLe (B s) = false) (h2 : isFi (B s) = false) (h3 : ¬ B s = nI 59) : tY B s = 4 := (if_neg (bf_n h)).trans ((if_neg (bf_n h2)).trans (if_neg h3))
theorem tY_le (B : Nat → Int32) (s : Nat) : 1 ≤ tY B s ∧ tY B s ≤ 4 := by
  unfold tY
  split
  · omega
  · split
    · omega
    · split <;> omega
def pk (B : Nat → Int32) (s : Nat) : Int32 → Bool := if tY B s = 1 then isLe else isFi
theorem pk1 {B : Nat → Int32} {s : Nat} (h : tY B s = 1) : pk B s = isLe := if_pos h
theorem pk2 {B : Nat → Int32} {s : Nat} (h : ¬ tY B s = 1) : pk B s = isFi := if_neg h
/-- where the TOKEN that begins at s ends -/
def eK (B : Nat → Int32) (n s : Nat) : Nat := if tY B s < 3 then rn (pk B s) B n s else s + 1
theorem pk_b {B : Nat → Int32} {s : Nat} (h : tY B s < 3) : pk B s (B s) = true := by
  by_cases q : isLe (B s) = true
  · rw [pk1 (ty_1 q)]; exact q
  · have q' : isLe (B s) = false := by cases w : isLe (B s) with | true => exact absurd w q | false => rfl
    by_cases q2 : isFi (B s) = true
    · rw [pk2 (by rw [ty_2 q' q2]; decide)]; exact q2
    · exfalso
      unfold tY at h
      rw [if_neg q, if_neg q2] at h
      split at h <;> omega
theorem lk_a {B : Nat → Int32} {n s : Nat} (h1 : s < n) (h : tY B s < 3) : rn (pk B s) B n (s + 1) = eK B n s := by
  unfold eK; rw [if_pos h]; exact (rn_step h1 (pk_b h)).symm
theorem lk_b {B : Nat → Int32} {n s : Nat} (h : 3 ≤ tY B s) : s + 1 = eK B n s := by
  unfold eK; rw [if_neg (by omega)]
theorem lk_t {B : Nat → Int32} {n s f : Nat} (hx : tS B n f = s) (h1 : s < n) : tE B n f = eK B n s ∧ tT B n f = (if tY B s = 2 then (if eK B n s - s ≤ 2 then 2 else 4) else tY B s) ∧ (tY B s = 2 → tV B n f = vN B s (eK B n s)) := by
  by_cases q : isLe (B s) = true
  · have y := ty_1 q
    obtain ⟨a, b⟩ := tk_1 hx h1 q
    have e : eK B n s = rn isLe B n s := by unfold eK; rw [if_pos (by omega), pk1 y]
    refine ⟨a.trans e.symm, ?_, fun w => by omega⟩
    rw [b, if_neg (by omega), y]
  · have q' : isLe (B s) = false := by cases w : isLe (B s) with | true => exact absurd w q | false => rfl
    by_cases q2 : isFi (B s) = true
    · have y := ty_2 q' q2
      obtain ⟨a, b, d⟩ := tk_2 hx h1 q' q2
      have e : eK B n s = rn isFi B n s := by unfold eK; rw [if_pos (by omega), pk2 (by omega)]
      refine ⟨a.trans e.symm, ?_, fun w => by rw [d, e]⟩
      rw [b, if_pos y, e]
    · have q2' : isFi (B s) = false := by cases w : isFi (B s) with | true => exact absurd w q2 | false => rfl
      by_cases q3 : B s = nI 59
      · have y := ty_3 q' q2' q3
        obtain ⟨a, b⟩ := tk_3 hx h1 q' q2' q3
        have e : eK B n s = s + 1 := by unfold eK; rw [if_neg (by omega)]
        refine ⟨a.trans e.symm, ?_, fun w => by omega⟩
        rw [b, if_neg (by omega), y]
      · have y := ty_4 q' q2' q3
        obtain ⟨a, b⟩ := tk_4 hx h1 q' q2' q3
        have e : eK B n s = s + 1 := by unfold eK; rw [if_neg (by omega)]
        refine ⟨a.trans e.symm, ?_, fun w => by omega⟩
        rw [b, if_neg (by omega), y]
theorem lk_w {B : Nat → Int32} {n s f : Nat} (hx : tS B n f = s) (h1 : s < n) (h : tT B n f = 2) : tY B s = 2 ∧ eK B n s - s ≤ 2 := by
  have e := (lk_t hx h1).2.1
  rw [h] at e
  by_cases q : tY B s = 2
  · rw [if_pos q] at e
    refine ⟨q, ?_⟩
    split at e
    · assumption
    · omega
  · rw [if_neg q] at e; exact absurd e.symm q
def kM (B : Nat → Int32) (n p m : Nat) (h : xI) : Prop := h m 12 = nI (tS B n p) ∧ h m 13 = nI (tE B n p - tS B n p) ∧ h m 14 = nI (tT B n p) ∧ (tT B n p = 2 → h m 15 = tV B n p)
set_option maxHeartbeats 4000000 in
set_option maxRecDepth 100000 in
theorem cx_X8_lookAt {l : Launch} {w : Kw} (hw : wOk w) {m : Nat} (hM : shM w m) {B : Nat → Int32} {n f0 : Nat} (hn : n ≤ 150) (hf : f0 ≤ n) (h : xI) (g : xJ) (hb : h m 11 = nI n) (hB : ∀ i, i < n → h (m + 9) i = B i) : Ct l w yX8_lookAt cX8_lookAt 5 none 2 45 [.ref (wA w (m)), .int (nI (f0))] h g (pQv (fun h' => fL m h h' ∧ kM B n f0 m h')) := by
  refine Ct_of (ls := [some (.ref (wA w (m))), some (.int (nI (f0))), none, none, none]) (by decide) hw (Nat.le_of_ble_eq_true rfl) rfl (fun k hkl C => ?_)
  have C : Cx k w cX8_lookAt RX8 5 none 2 45 := C
  have D := dtX8_lookAt
  subst hkl
  have hM0 := hM
  obtain ⟨hm, hsm, hs1, hs2, hs3, hs4, hs5, hs6, hs7, hs8, hs9, hs10, hs11⟩ := hM
  have hM := hM0
  have jn114 : ∀ (hh : xI) (p1 : Nat) (cc : Int32), (f0 ≤ p1) → (p1 < n) → (hh m 12 = nI p1) → (∀ q i, (q ≠ m ∨ i < 12 ∨ 15 < i) → hh q i = h q i) → (tS B n f0 = p1) → (hh m 15 = nI 0) → X k w (Zq k w (pQv (fun h' => fL m h h' ∧ kM B n f0 m h'))) 114 [some (.ref (wA w (m))), some (.int (nI (f0))), some (.int (cc)), none, none] [.int (nI (tY B p1)), .ref (wA w (m))] hh g := by
    intro hh p1 cc hc114_0 hc114_1 hc114_2 hc114_3 hc114_4 hc114_5
    have hty := tY_le B p1
    refine X_putI C (m) 14 tyX8 tyX8_ok nmX8 (by omega) hsm rfl rfl (by decide) inX8 fX8_256 rfl rfl (by decide +kernel) (D (114, .putfield 256, 3) (mg 60 rfl)) ?_
    refine X_aload_n C 0 (D (117, .aload_n 0, 1) (mg 61 rfl)) rfl rfl ?_
    refine X_iconst (v := nI (1)) C (D (118, .iconst 1, 1) (mg 62 rfl)) (by decide) ?_
    refine X_putI C (m) 13 tyX8 tyX8_ok nmX8 (by omega) hsm rfl rfl (by decide) inX8 fX8_253 rfl rfl (by decide +kernel) (D (119, .putfield 253, 3) (mg 63 rfl)) ?_
    refine X_aload_n C 0 (D (122, .aload_n 0, 1) (mg 64 rfl)) rfl rfl ?_
    refine X_get (v := .int ((u2 (u2 hh (m) 14 (nI (tY B p1))) (m) 13 (nI (1))) (m) 14)) C (m) 14 (by omega) hsm rfl rfl (by decide) inX8 fX8_256 rfl (D (123, .getfield 256, 3) (mg 65 rfl)) rfl ?_
    refine X_ti (y := nI (tY B p1)) (((u2_i _ _ _ _ (by omega))).trans (u2_s _ _ _ _)) ?_
    refine X_iconst (v := nI (3)) C (D (126, .iconst 3, 1) (mg 66 rfl)) (by decide) ?_
    refine X_icmp_ge (tgt := 134) C (D (127, .if_icmp .ge 7, 3) (mg 67 rfl)) (by decide) (fun q1 => ?_) (fun q1 => ?_)
    · skip
      have q1 : (tY B p1) ≥ (3) := by have z := (nI_leI (a := (3)) (b := (tY B p1)) (by omega) (by omega)).mp q1; omega
      refine X_iconst (v := nI (0)) C (D (134, .iconst 0, 1) (mg 70 rfl)) (by decide) ?_
      refine X_istore_n (ls' := [some (.ref (wA w (m))), some (.int (nI (f0))), some (.int (cc)), some (.int (nI (0))), none]) C 3 (D (135, .istore_n 3, 1) (mg 71 rfl)) rfl (Nat.le_of_ble_eq_true rfl) rfl ?_
      have lp136 : ∀ (nn136 : Nat) (l1 : Nat) (e3 : Nat) (b3 : Int32) (hp136 : xI), (1 ≤ l1) → (p1 + l1 ≤ n) → (e3 ≤ 1) → (e3 = 0 → b3 = 0) → (hp136 m 12 = nI p1) → (hp136 m 13 = nI l1) → (∀ q i, (q ≠ m ∨ i < 12 ∨ 15 < i) → hp136 q i = h q i) → (hp136 m 14 = nI (tY B p1)) → (hp136 m 15 = nI 0) → (¬ b3 = 0 → tY B p1 < 3 ∧ rn (pk B p1) B n (p1 + l1) = eK B n p1) → (b3 = 0 → p1 + l1 = eK B n p1) → 2 * (n - (p1 + l1)) + e3 + 1 ≤ nn136 → X k w (Zq k w (pQv (fun h' => fL m h h' ∧ kM B n f0 m h'))) 136 [some (.ref (wA w (m))), some (.int (nI (f0))), some (.int (cc)), some (.int (b3)), none] [] hp136 g := by
        intro nn136
        induction nn136 with
        | zero => intro l1 e3 b3 hp136 hc136_0 hc136_1 hc136_2 hc136_3 hc136_4 hc136_5 hc136_6 hc136_7 hc136_8 hc136_9 hc136_10 hz; exact absurd hz (by omega)
        | succ nn136 ih136 =>
          intro l1 e3 b3 hp136 hc136_0 hc136_1 hc136_2 hc136_3 hc136_4 hc136_5 hc136_6 hc136_7 hc136_8 hc136_9 hc136_10 hz136
          refine X_iload_n C 3 (D (136, .iload_n 3, 1) (mg 72 rfl)) rfl rfl ?_
          refine X_if_eq (tgt := 215) C (D (137, .ifCond .eq 78, 3) (mg 73 rfl)) (by decide) (fun q2 => ?_) (fun q2 => ?_)
          · skip
            have hend := hc136_10 q2
            refine X_iconst (v := nI (0)) C (D (215, .iconst 0, 1) (mg 112 rfl)) (by decide) ?_
            refine X_istore (ls' := [some (.ref (wA w (m))), some (.int (nI (f0))), some (.int (cc)), some (.int (b3)), some (.int (nI (0)))]) C (D (216, .istore 4, 2) (mg 113 rfl)) (Nat.le_of_ble_eq_true rfl) rfl ?_
            have lp218 : ∀ (nn218 : Nat) (k4 : Nat) (hp218 : xI), (k4 ≤ 2) → (k4 ≤ l1) → (hp218 m 12 = nI p1) → (hp218 m 13 = nI l1) → (∀ q i, (q ≠ m ∨ i < 12 ∨ 15 < i) → hp218 q i = h q i) → (hp218 m 14 = nI (tY B p1)) → (tY B p1 = 2 → hp218 m 15 = vN B p1 (p1 + k4)) → 3 - k4 ≤ nn218 → X k w (Zq k w (pQv (fun h' => fL m h h' ∧ kM B n f0 m h'))) 218 [some (.ref (wA w (m))), some (.int (nI (f0))), some (.int (cc)), some (.int (b3)), some (.int (nI (k4)))] [] hp218 g := by
              intro nn218
              induction nn218 with
              | zero => intro k4 hp218 hc218_0 hc218_1 hc218_2 hc218_3 hc218_4 hc218_5 hc218_6 hz; exact absurd hz (by omega)
              | succ nn218 ih218 =>
                intro k4 hp218 hc218_0 hc218_1 hc218_2 hc218_3 hc218_4 hc218_5 hc218_6 hz218
                refine X_iload C (D (218, .iload 4, 2) (mg 114 rfl)) rfl ?_
                refine X_aload_n C 0 (D (220, .aload_n 0, 1) (mg 115 rfl)) rfl rfl ?_
                refine X_get (v := .int (hp218 (m) 13)) C (m) 13 (by omega) hsm rfl rfl (by decide) inX8 fX8_253 rfl (D (221, .getfield 253, 3) (mg 116 rfl)) rfl ?_
                refine X_ti (y := nI (l1)) (hc218_3) ?_
                refine X_icmp_ge (tgt := 274) C (D (224, .if_icmp .ge 50, 3) (mg 117 rfl)) (by decide) (fun q3 => ?_) (fun q3 => ?_)
                · skip
                  have q3 : (k4) ≥ (l1) := by have z := (nI_leI (a := (l1)) (b := (k4)) (by omega) (by omega)).mp q3; omega
                  refine X_aload_n C 0 (D (274, .aload_n 0, 1) (mg 143 rfl)) rfl rfl ?_
                  refine X_aload_n C 0 (D (275, .aload_n 0, 1) (mg 144 rfl)) rfl rfl ?_
                  refine X_get (v := .int (hp218 (m) 14)) C (m) 14 (by omega) hsm rfl rfl (by decide) inX8 fX8_256 rfl (D (276, .getfield 256, 3) (mg 145 rfl)) rfl ?_
                  refine X_ti (y := nI (tY B p1)) (hc218_5) ?_
                  refine X_iconst (v := nI (2)) C (D (279, .iconst 2, 1) (mg 146 rfl)) (by decide) ?_
                  refine X_icmp_ne (tgt := 295) C (D (280, .if_icmp .ne 15, 3) (mg 147 rfl)) (by decide) (fun q4 => ?_) (fun q4 => ?_)
                  · skip
                    have q4 : (tY B p1) ≠ (2) := by have z : ¬ ((tY B p1) = (2)) := fun u => q4 ((nI_eq (a := (tY B p1)) (b := (2)) (by omega) (by omega)).mpr u); omega
                    refine X_aload_n C 0 (D (295, .aload_n 0, 1) (mg 154 rfl)) rfl rfl ?_
                    refine X_get (v := .int (hp218 (m) 14)) C (m) 14 (by omega) hsm rfl rfl (by decide) inX8 fX8_256 rfl (D (296, .getfield 256, 3) (mg 155 rfl)) rfl ?_
                    refine X_ti (y := nI (tY B p1)) (hc218_5) ?_
                    refine X_putI C (m) 14 tyX8 tyX8_ok nmX8 (by omega) hsm rfl rfl (by decide) inX8 fX8_256 rfl rfl (by decide +kernel) (D (299, .putfield 256, 3) (mg 156 rfl)) ?_
                    exact X_vret C (D (302, .return_, 1) (mg 157 rfl)) (have ht_ := lk_t hc114_4 (by omega); ⟨rfl, (fun q i z => by rw [u2_ne _ _ _ _ (by omega)]; exact hc218_4 q i z), by rw [hc114_4]; exact (((u2_i _ _ _ _ (by omega))).trans hc218_2), by rw [ht_.1, hc114_4, show eK B n p1 - p1 = l1 by omega]; exact (((u2_i _ _ _ _ (by omega))).trans hc218_3), by rw [ht_.2.1]; first | (rw [if_neg (by omega)]; exact ((u2_s _ _ _ _))) | (rw [if_pos (by omega), if_pos (by omega)]; exact (((u2_s _ _ _ _))).trans (by rw [show tY B p1 = 2 by omega])), fun u_ => by obtain ⟨h2_, h3_⟩ := lk_w hc114_4 (by omega) u_; rw [ht_.2.2 h2_, ← show p1 + k4 = eK B n p1 by omega]; exact (u2_i _ _ _ _ (by omega)).trans (hc218_6 h2_)⟩)
                  · skip
                    have q4 : (tY B p1) = (2) := by have z := (nI_eq (a := (tY B p1)) (b := (2)) (by omega) (by omega)).mp q4; omega
                    refine X_aload_n C 0 (D (283, .aload_n 0, 1) (mg 148 rfl)) rfl rfl ?_
                    refine X_get (v := .int (hp218 (m) 13)) C (m) 13 (by omega) hsm rfl rfl (by decide) inX8 fX8_253 rfl (D (284, .getfield 253, 3) (mg 149 rfl)) rfl ?_
                    refine X_ti (y := nI (l1)) (hc218_3) ?_
                    refine X_iconst (v := nI (2)) C (D (287, .iconst 2, 1) (mg 150 rfl)) (by decide) ?_
                    refine X_icmp_le (tgt := 295) C (D (288, .if_icmp .le 7, 3) (mg 151 rfl)) (by decide) (fun q5 => ?_) (fun q5 => ?_)
                    · skip
                      have q5 : (l1) ≤ (2) := by have z := (nI_leI (a := (l1)) (b := (2)) (by omega) (by omega)).mp q5; omega
                      refine X_aload_n C 0 (D (295, .aload_n 0, 1) (mg 154 rfl)) rfl rfl ?_
                      refine X_get (v := .int (hp218 (m) 14)) C (m) 14 (by omega) hsm rfl rfl (by decide) inX8 fX8_256 rfl (D (296, .getfield 256, 3) (mg 155 rfl)) rfl ?_
                      refine X_ti (y := nI (tY B p1)) (hc218_5) ?_
                      refine X_putI C (m) 14 tyX8 tyX8_ok nmX8 (by omega) hsm rfl rfl (by decide) inX8 fX8_256 rfl rfl (by decide +kernel) (D (299, .putfield 256, 3) (mg 156 rfl)) ?_
                      exact X_vret C (D (302, .return_, 1) (mg 157 rfl)) (have ht_ := lk_t hc114_4 (by omega); ⟨rfl, (fun q i z => by rw [u2_ne _ _ _ _ (by omega)]; exact hc218_4 q i z), by rw [hc114_4]; exact (((u2_i _ _ _ _ (by omega))).trans hc218_2), by rw [ht_.1, hc114_4, show eK B n p1 - p1 = l1 by omega]; exact (((u2_i _ _ _ _ (by omega))).trans hc218_3), by rw [ht_.2.1]; first | (rw [if_neg (by omega)]; exact ((u2_s _ _ _ _))) | (rw [if_pos (by omega), if_pos (by omega)]; exact (((u2_s _ _ _ _))).trans (by rw [show tY B p1 = 2 by omega])), fun u_ => by obtain ⟨h2_, h3_⟩ := lk_w hc114_4 (by omega) u_; rw [ht_.2.2 h2_, ← show p1 + k4 = eK B n p1 by omega]; exact (u2_i _ _ _ _ (by omega)).trans (hc218_6 h2_)⟩)
                    · skip
                      have q5 : (l1) > (2) := by have z : ¬ ((l1) ≤ (2)) := fun u => q5 ((nI_leI (a := (l1)) (b := (2)) (by omega) (by omega)).mpr u); omega
                      refine X_iconst (v := nI (4)) C (D (291, .iconst 4, 1) (mg 152 rfl)) (by decide) ?_
                      refine X_goto (tgt := 299) C (D (292, .goto 7, 3) (mg 153 rfl)) (by decide) ?_
                      refine X_putI C (m) 14 tyX8 tyX8_ok nmX8 (by omega) hsm rfl rfl (by decide) inX8 fX8_256 rfl rfl (by decide +kernel) (D (299, .putfield 256, 3) (mg 156 rfl)) ?_
                      exact X_vret C (D (302, .return_, 1) (mg 157 rfl)) (have ht_ := lk_t hc114_4 (by omega); ⟨rfl, (fun q i z => by rw [u2_ne _ _ _ _ (by omega)]; exact hc218_4 q i z), by rw [hc114_4]; exact (((u2_i _ _ _ _ (by omega))).trans hc218_2), by rw [ht_.1, hc114_4, show eK B n p1 - p1 = l1 by omega]; exact (((u2_i _ _ _ _ (by omega))).trans hc218_3), by rw [ht_.2.1, if_pos (by omega), if_neg (by omega)]; exact ((u2_s _ _ _ _)), fun u_ => by obtain ⟨h2_, h3_⟩ := lk_w hc114_4 (by omega) u_; rw [ht_.2.2 h2_, ← show p1 + k4 = eK B n p1 by omega]; exact (u2_i _ _ _ _ (by omega)).trans (hc218_6 h2_)⟩)
                · skip
                  have q3 : (k4) < (l1) := by have z : ¬ ((l1) ≤ (k4)) := fun u => q3 ((nI_leI (a := (l1)) (b := (k4)) (by omega) (by omega)).mpr u); omega
                  refine X_iload C (D (227, .iload 4, 2) (mg 118 rfl)) rfl ?_
                  refine X_iconst (v := nI (2)) C (D (229, .iconst 2, 1) (mg 119 rfl)) (by decide) ?_
                  refine X_icmp_ge (tgt := 274) C (D (230, .if_icmp .ge 44, 3) (mg 120 rfl)) (by decide) (fun q6 => ?_) (fun q6 => ?_)
                  · skip
                    have q6 : (k4) ≥ (2) := by have z := (nI_leI (a := (2)) (b := (k4)) (by omega) (by omega)).mp q6; omega
                    refine X_aload_n C 0 (D (274, .aload_n 0, 1) (mg 143 rfl)) rfl rfl ?_
                    refine X_aload_n C 0 (D (275, .aload_n 0, 1) (mg 144 rfl)) rfl rfl ?_
                    refine X_get (v := .int (hp218 (m) 14)) C (m) 14 (by omega) hsm rfl rfl (by decide) inX8 fX8_256 rfl (D (276, .getfield 256, 3) (mg 145 rfl)) rfl ?_
                    refine X_ti (y := nI (tY B p1)) (hc218_5) ?_
                    refine X_iconst (v := nI (2)) C (D (279, .iconst 2, 1) (mg 146 rfl)) (by decide) ?_
                    refine X_icmp_ne (tgt := 295) C (D (280, .if_icmp .ne 15, 3) (mg 147 rfl)) (by decide) (fun q7 => ?_) (fun q7 => ?_)
                    · skip
                      have q7 : (tY B p1) ≠ (2) := by have z : ¬ ((tY B p1) = (2)) := fun u => q7 ((nI_eq (a := (tY B p1)) (b := (2)) (by omega) (by omega)).mpr u); omega
                      refine X_aload_n C 0 (D (295, .aload_n 0, 1) (mg 154 rfl)) rfl rfl ?_
                      refine X_get (v := .int (hp218 (m) 14)) C (m) 14 (by omega) hsm rfl rfl (by decide) inX8 fX8_256 rfl (D (296, .getfield 256, 3) (mg 155 rfl)) rfl ?_
                      refine X_ti (y := nI (tY B p1)) (hc218_5) ?_
                      refine X_putI C (m) 14 tyX8 tyX8_ok nmX8 (by omega) hsm rfl rfl (by decide) inX8 fX8_256 rfl rfl (by decide +kernel) (D (299, .putfield 256, 3) (mg 156 rfl)) ?_
                      exact X_vret C (D (302, .return_, 1) (mg 157 rfl)) (have ht_ := lk_t hc114_4 (by omega); ⟨rfl, (fun q i z => by rw [u2_ne _ _ _ _ (by omega)]; exact hc218_4 q i z), by rw [hc114_4]; exact (((u2_i _ _ _ _ (by omega))).trans hc218_2), by rw [ht_.1, hc114_4, show eK B n p1 - p1 = l1 by omega]; exact (((u2_i _ _ _ _ (by omega))).trans hc218_3), by rw [ht_.2.1]; first | (rw [if_neg (by omega)]; exact ((u2_s _ _ _ _))) | (rw [if_pos (by omega), if_pos (by omega)]; exact (((u2_s _ _ _ _))).trans (by rw [show tY B p1 = 2 by omega])), fun u_ => by obtain ⟨h2_, h3_⟩ := lk_w hc114_4 (by omega) u_; rw [ht_.2.2 h2_, ← show p1 + k4 = eK B n p1 by omega]; exact (u2_i _ _ _ _ (by omega)).trans (hc218_6 h2_)⟩)
                    · skip
                      have q7 : (tY B p1) = (2) := by have z := (nI_eq (a := (tY B p1)) (b := (2)) (by omega) (by omega)).mp q7; omega
                      refine X_aload_n C 0 (D (283, .aload_n 0, 1) (mg 148 rfl)) rfl rfl ?_
                      refine X_get (v := .int (hp218 (m) 13)) C (m) 13 (by omega) hsm rfl rfl (by decide) inX8 fX8_253 rfl (D (284, .getfield 253, 3) (mg 149 rfl)) rfl ?_
                      refine X_ti (y := nI (l1)) (hc218_3) ?_
                      refine X_iconst (v := nI (2)) C (D (287, .iconst 2, 1) (mg 150 rfl)) (by decide) ?_
                      refine X_icmp_le (tgt := 295) C (D (288, .if_icmp .le 7, 3) (mg 151 rfl)) (by decide) (fun q8 => ?_) (fun q8 => ?_)
                      · skip
                        have q8 : (l1) ≤ (2) := by have z := (nI_leI (a := (l1)) (b := (2)) (by omega) (by omega)).mp q8; omega
                        refine X_aload_n C 0 (D (295, .aload_n 0, 1) (mg 154 rfl)) rfl rfl ?_
                        refine X_get (v := .int (hp218 (m) 14)) C (m) 14 (by omega) hsm rfl rfl (by decide) inX8 fX8_256 rfl (D (296, .getfield 256, 3) (mg 155 rfl)) rfl ?_
                        refine X_ti (y := nI (tY B p1)) (hc218_5) ?_
                        refine X_putI C (m) 14 tyX8 tyX8_ok nmX8 (by omega) hsm rfl rfl (by decide) inX8 fX8_256 rfl rfl (by decide +kernel) (D (299, .putfield 256, 3) (mg 156 rfl)) ?_
                        exact X_vret C (D (302, .return_, 1) (mg 157 rfl)) (have ht_ := lk_t hc114_4 (by omega); ⟨rfl, (fun q i z => by rw [u2_ne _ _ _ _ (by omega)]; exact hc218_4 q i z), by rw [hc114_4]; exact (((u2_i _ _ _ _ (by omega))).trans hc218_2), by rw [ht_.1, hc114_4, show eK B n p1 - p1 = l1 by omega]; exact (((u2_i _ _ _ _ (by omega))).trans hc218_3), by rw [ht_.2.1]; first | (rw [if_neg (by omega)]; exact ((u2_s _ _ _ _))) | (rw [if_pos (by omega), if_pos (by omega)]; exact (((u2_s _ _ _ _))).trans (by rw [show tY B p1 = 2 by omega])), fun u_ => by obtain ⟨h2_, h3_⟩ := lk_w hc114_4 (by omega) u_; rw [ht_.2.2 h2_, ← show p1 + k4 = eK B n p1 by omega]; exact (u2_i _ _ _ _ (by omega)).trans (hc218_6 h2_)⟩)
                      · skip
                        have q8 : (l1) > (2) := by have z : ¬ ((l1) ≤ (2)) := fun u => q8 ((nI_leI (a := (l1)) (b := (2)) (by omega) (by omega)).mpr u); omega
                        refine X_iconst (v := nI (4)) C (D (291, .iconst 4, 1) (mg 152 rfl)) (by decide) ?_
                        refine X_goto (tgt := 299) C (D (292, .goto 7, 3) (mg 153 rfl)) (by decide) ?_
                        refine X_putI C (m) 14 tyX8 tyX8_ok nmX8 (by omega) hsm rfl rfl (by decide) inX8 fX8_256 rfl rfl (by decide +kernel) (D (299, .putfield 256, 3) (mg 156 rfl)) ?_
                        exact X_vret C (D (302, .return_, 1) (mg 157 rfl)) (have ht_ := lk_t hc114_4 (by omega); ⟨rfl, (fun q i z => by rw [u2_ne _ _ _ _ (by omega)]; exact hc218_4 q i z), by rw [hc114_4]; exact (((u2_i _ _ _ _ (by omega))).trans hc218_2), by rw [ht_.1, hc114_4, show eK B n p1 - p1 = l1 by omega]; exact (((u2_i _ _ _ _ (by omega))).trans hc218_3), by rw [ht_.2.1, if_pos (by omega), if_neg (by omega)]; exact ((u2_s _ _ _ _)), fun u_ => by obtain ⟨h2_, h3_⟩ := lk_w hc114_4 (by omega) u_; rw [ht_.2.2 h2_, ← show p1 + k4 = eK B n p1 by omega]; exact (u2_i _ _ _ _ (by omega)).trans (hc218_6 h2_)⟩)
                  · skip
                    have q6 : (k4) < (2) := by have z : ¬ ((2) ≤ (k4)) := fun u => q6 ((nI_leI (a := (2)) (b := (k4)) (by omega) (by omega)).mpr u); omega
                    refine X_aload_n C 0 (D (233, .aload_n 0, 1) (mg 121 rfl)) rfl rfl ?_
                    refine X_get (v := .int (hp218 (m) 14)) C (m) 14 (by omega) hsm rfl rfl (by decide) inX8 fX8_256 rfl (D (234, .getfield 256, 3) (mg 122 rfl)) rfl ?_
                    refine X_ti (y := nI (tY B p1)) (hc218_5) ?_
                    refine X_iconst (v := nI (2)) C (D (237, .iconst 2, 1) (mg 123 rfl)) (by decide) ?_
                    refine X_icmp_ne (tgt := 274) C (D (238, .if_icmp .ne 36, 3) (mg 124 rfl)) (by decide) (fun q9 => ?_) (fun q9 => ?_)
                    · skip
                      have q9 : (tY B p1) ≠ (2) := by have z : ¬ ((tY B p1) = (2)) := fun u => q9 ((nI_eq (a := (tY B p1)) (b := (2)) (by omega) (by omega)).mpr u); omega
                      refine X_aload_n C 0 (D (274, .aload_n 0, 1) (mg 143 rfl)) rfl rfl ?_
                      refine X_aload_n C 0 (D (275, .aload_n 0, 1) (mg 144 rfl)) rfl rfl ?_
                      refine X_get (v := .int (hp218 (m) 14)) C (m) 14 (by omega) hsm rfl rfl (by decide) inX8 fX8_256 rfl (D (276, .getfield 256, 3) (mg 145 rfl)) rfl ?_
                      refine X_ti (y := nI (tY B p1)) (hc218_5) ?_
                      refine X_iconst (v := nI (2)) C (D (279, .iconst 2, 1) (mg 146 rfl)) (by decide) ?_
                      refine X_icmp_ne (tgt := 295) C (D (280, .if_icmp .ne 15, 3) (mg 147 rfl)) (by decide) (fun q10 => ?_) (fun q10 => ?_)
                      · skip
                        have q10 : (tY B p1) ≠ (2) := by have z : ¬ ((tY B p1) = (2)) := fun u => q10 ((nI_eq (a := (tY B p1)) (b := (2)) (by omega) (by omega)).mpr u); omega
                        refine X_aload_n C 0 (D (295, .aload_n 0, 1) (mg 154 rfl)) rfl rfl ?_
                        refine X_get (v := .int (hp218 (m) 14)) C (m) 14 (by omega) hsm rfl rfl (by decide) inX8 fX8_256 rfl (D (296, .getfield 256, 3) (mg 155 rfl)) rfl ?_
                        refine X_ti (y := nI (tY B p1)) (hc218_5) ?_
                        refine X_putI C (m) 14 tyX8 tyX8_ok nmX8 (by omega) hsm rfl rfl (by decide) inX8 fX8_256 rfl rfl (by decide +kernel) (D (299, .putfield 256, 3) (mg 156 rfl)) ?_
                        exact X_vret C (D (302, .return_, 1) (mg 157 rfl)) (have ht_ := lk_t hc114_4 (by omega); ⟨rfl, (fun q i z => by rw [u2_ne _ _ _ _ (by omega)]; exact hc218_4 q i z), by rw [hc114_4]; exact (((u2_i _ _ _ _ (by omega))).trans hc218_2), by rw [ht_.1, hc114_4, show eK B n p1 - p1 = l1 by omega]; exact (((u2_i _ _ _ _ (by omega))).trans hc218_3), by rw [ht_.2.1]; first | (rw [if_neg (by omega)]; exact ((u2_s _ _ _ _))) | (rw [if_pos (by omega), if_pos (by omega)]; exact (((u2_s _ _ _ _))).trans (by rw [show tY B p1 = 2 by omega])), fun u_ => by obtain ⟨h2_, h3_⟩ := lk_w hc114_4 (by omega) u_; rw [ht_.2.2 h2_, ← show p1 + k4 = eK B n p1 by omega]; exact (u2_i _ _ _ _ (by omega)).trans (hc218_6 h2_)⟩)
                      · skip
                        have q10 : (tY B p1) = (2) := by have z := (nI_eq (a := (tY B p1)) (b := (2)) (by omega) (by omega)).mp q10; omega
                        refine X_aload_n C 0 (D (283, .aload_n 0, 1) (mg 148 rfl)) rfl rfl ?_
                        refine X_get (v := .int (hp218 (m) 13)) C (m) 13 (by omega) hsm rfl rfl (by decide) inX8 fX8_253 rfl (D (284, .getfield 253, 3) (mg 149 rfl)) rfl ?_
                        refine X_ti (y := nI (l1)) (hc218_3) ?_
                        refine X_iconst (v := nI (2)) C (D (287, .iconst 2, 1) (mg 150 rfl)) (by decide) ?_
                        refine X_icmp_le (tgt := 295) C (D (288, .if_icmp .le 7, 3) (mg 151 rfl)) (by decide) (fun q11 => ?_) (fun q11 => ?_)
                        · skip
                          have q11 : (l1) ≤ (2) := by have z := (nI_leI (a := (l1)) (b := (2)) (by omega) (by omega)).mp q11; omega
                          refine X_aload_n C 0 (D (295, .aload_n 0, 1) (mg 154 rfl)) rfl rfl ?_
                          refine X_get (v := .int (hp218 (m) 14)) C (m) 14 (by omega) hsm rfl rfl (by decide) inX8 fX8_256 rfl (D (296, .getfield 256, 3) (mg 155 rfl)) rfl ?_
                          refine X_ti (y := nI (tY B p1)) (hc218_5) ?_
                          refine X_putI C (m) 14 tyX8 tyX8_ok nmX8 (by omega) hsm rfl rfl (by decide) inX8 fX8_256 rfl rfl (by decide +kernel) (D (299, .putfield 256, 3) (mg 156 rfl)) ?_
                          exact X_vret C (D (302, .return_, 1) (mg 157 rfl)) (have ht_ := lk_t hc114_4 (by omega); ⟨rfl, (fun q i z => by rw [u2_ne _ _ _ _ (by omega)]; exact hc218_4 q i z), by rw [hc114_4]; exact (((u2_i _ _ _ _ (by omega))).trans hc218_2), by rw [ht_.1, hc114_4, show eK B n p1 - p1 = l1 by omega]; exact (((u2_i _ _ _ _ (by omega))).trans hc218_3), by rw [ht_.2.1]; first | (rw [if_neg (by omega)]; exact ((u2_s _ _ _ _))) | (rw [if_pos (by omega), if_pos (by omega)]; exact (((u2_s _ _ _ _))).trans (by rw [show tY B p1 = 2 by omega])), fun u_ => by obtain ⟨h2_, h3_⟩ := lk_w hc114_4 (by omega) u_; rw [ht_.2.2 h2_, ← show p1 + k4 = eK B n p1 by omega]; exact (u2_i _ _ _ _ (by omega)).trans (hc218_6 h2_)⟩)
                        · skip
                          have q11 : (l1) > (2) := by have z : ¬ ((l1) ≤ (2)) := fun u => q11 ((nI_leI (a := (l1)) (b := (2)) (by omega) (by omega)).mpr u); omega
                          refine X_iconst (v := nI (4)) C (D (291, .iconst 4, 1) (mg 152 rfl)) (by decide) ?_
                          refine X_goto (tgt := 299) C (D (292, .goto 7, 3) (mg 153 rfl)) (by decide) ?_
                          refine X_putI C (m) 14 tyX8 tyX8_ok nmX8 (by omega) hsm rfl rfl (by decide) inX8 fX8_256 rfl rfl (by decide +kernel) (D (299, .putfield 256, 3) (mg 156 rfl)) ?_
                          exact X_vret C (D (302, .return_, 1) (mg 157 rfl)) (have ht_ := lk_t hc114_4 (by omega); ⟨rfl, (fun q i z => by rw [u2_ne _ _ _ _ (by omega)]; exact hc218_4 q i z), by rw [hc114_4]; exact (((u2_i _ _ _ _ (by omega))).trans hc218_2), by rw [ht_.1, hc114_4, show eK B n p1 - p1 = l1 by omega]; exact (((u2_i _ _ _ _ (by omega))).trans hc218_3), by rw [ht_.2.1, if_pos (by omega), if_neg (by omega)]; exact ((u2_s _ _ _ _)), fun u_ => by obtain ⟨h2_, h3_⟩ := lk_w hc114_4 (by omega) u_; rw [ht_.2.2 h2_, ← show p1 + k4 = eK B n p1 by omega]; exact (u2_i _ _ _ _ (by omega)).trans (hc218_6 h2_)⟩)
                    · skip
                      have q9 : (tY B p1) = (2) := by have z := (nI_eq (a := (tY B p1)) (b := (2)) (by omega) (by omega)).mp q9; omega
                      refine X_aload_n C 0 (D (241, .aload_n 0, 1) (mg 125 rfl)) rfl rfl ?_
                      refine X_bipush (v := nI (10)) C (D (242, .bipush 10, 2) (mg 126 rfl)) (by decide) ?_
                      refine X_aload_n C 0 (D (244, .aload_n 0, 1) (mg 127 rfl)) rfl rfl ?_
                      refine X_get (v := .int (hp218 (m) 15)) C (m) 15 (by omega) hsm rfl rfl (by decide) inX8 fX8_259 rfl (D (245, .getfield 259, 3) (mg 128 rfl)) rfl ?_
                      refine X_ti (y := vN B p1 (p1 + k4)) ((hc218_6 q9)) ?_
                      refine X_imul C (D (248, .imul, 1) (mg 129 rfl)) ?_
                      refine X_aload_n C 0 (D (249, .aload_n 0, 1) (mg 130 rfl)) rfl rfl ?_
                      refine X_get (v := .ref (wA w (m + 9))) C (m) 10 (by omega) hsm rfl rfl (by decide) inX8 fX8_39 rfl (D (250, .getfield 39, 3) (mg 131 rfl)) rfl ?_
                      refine X_aload_n C 0 (D (253, .aload_n 0, 1) (mg 132 rfl)) rfl rfl ?_
                      refine X_get (v := .int (hp218 (m) 12)) C (m) 12 (by omega) hsm rfl rfl (by decide) inX8 fX8_250 rfl (D (254, .getfield 250, 3) (mg 133 rfl)) rfl ?_
                      refine X_ti (y := nI (p1)) (hc218_2) ?_
                      refine X_iload C (D (257, .iload 4, 2) (mg 134 rfl)) rfl ?_
                      refine X_iadd C (D (259, .iadd, 1) (mg 135 rfl)) ?_
                      refine X_ti (y := nI (p1 + k4)) (nI_add (p1) (k4)) ?_
                      refine X_iald (v := hp218 (m + 9) (p1 + k4)) C (m + 9) (by omega) hs9 (vp_in_nI (by omega) (by omega)) (D (260, .iaload, 1) (mg 136 rfl)) (by rw [nI_clamp (by omega)]) ?_
                      refine X_iadd C (D (261, .iadd, 1) (mg 137 rfl)) ?_
                      refine X_bipush (v := nI (48)) C (D (262, .bipush 48, 2) (mg 138 rfl)) (by decide) ?_
                      refine X_isub C (D (264, .isub, 1) (mg 139 rfl)) ?_
                      refine X_putI C (m) 15 tyX8 tyX8_ok nmX8 (by omega) hsm rfl rfl (by decide) inX8 fX8_259 rfl rfl (by decide +kernel) (D (265, .putfield 259, 3) (mg 140 rfl)) ?_
                      refine X_iinc (v := nI (k4 + 1)) (ls' := [some (.ref (wA w (m))), some (.int (nI (f0))), some (.int (cc)), some (.int (b3)), some (.int (nI (k4 + 1)))]) C (D (268, .iinc 4 1, 3) (mg 141 rfl)) rfl (nI_add (k4) 1) rfl ?_
                      refine X_goto (tgt := 218) C (D (271, .goto (-53), 3) (mg 142 rfl)) (by decide) ?_
                      refine X_eq (ls' := [some (.ref (wA w (m))), some (.int (nI (f0))), some (.int (cc)), some (.int (b3)), some (.int (nI (k4 + 1)))]) (st' := []) (h' := (u2 hp218 (m) 15 ((((nI (10)) * (vN B p1 (p1 + k4))) + (hp218 (m + 9) (p1 + k4))) - (nI (48))))) (g' := g) rfl rfl rfl rfl ?_
                      exact ih218 (k4 + 1) ((u2 hp218 (m) 15 ((((nI (10)) * (vN B p1 (p1 + k4))) + (hp218 (m + 9) (p1 + k4))) - (nI (48))))) (by omega) (by omega) (((u2_i _ _ _ _ (by omega))).trans hc218_2) (((u2_i _ _ _ _ (by omega))).trans hc218_3) (fun q i z => by rw [u2_ne _ _ _ _ (by omega)]; exact hc218_4 q i z) (((u2_i _ _ _ _ (by omega))).trans hc218_5) (fun _ => (((u2_s _ _ _ _))).trans (vN_s (e := p1 + k4) (by omega) (by omega) ((hc218_4 _ _ (by omega)).trans (hB _ (by omega))))) (by omega)
            refine X_eq (ls' := [some (.ref (wA w (m))), some (.int (nI (f0))), some (.int (cc)), some (.int (b3)), some (.int (nI (0)))]) (st' := []) (h' := hp136) (g' := g) rfl rfl rfl rfl ?_
            exact lp218 _ (0) (hp136) (by omega) (by omega) (hc136_4) (hc136_5) (fun q i z => by skip; exact hc136_6 q i z) (hc136_7) (fun _ => by rw [Nat.add_zero, vN_0]; exact (hc136_8)) (Nat.le_refl _)
          · skip
            obtain ⟨hy3, hrk⟩ := hc136_9 q2
            have he3 : ¬ e3 = 0 := fun u_ => (by assumption : ¬ b3 = 0) (hc136_3 u_)
            refine X_aload_n C 0 (D (140, .aload_n 0, 1) (mg 74 rfl)) rfl rfl ?_
            refine X_get (v := .int (hp136 (m) 12)) C (m) 12 (by omega) hsm rfl rfl (by decide) inX8 fX8_250 rfl (D (141, .getfield 250, 3) (mg 75 rfl)) rfl ?_
            refine X_ti (y := nI (p1)) (hc136_4) ?_
            refine X_aload_n C 0 (D (144, .aload_n 0, 1) (mg 76 rfl)) rfl rfl ?_
            refine X_get (v := .int (hp136 (m) 13)) C (m) 13 (by omega) hsm rfl rfl (by decide) inX8 fX8_253 rfl (D (145, .getfield 253, 3) (mg 77 rfl)) rfl ?_
            refine X_ti (y := nI (l1)) (hc136_5) ?_
            refine X_iadd C (D (148, .iadd, 1) (mg 78 rfl)) ?_
            refine X_ti (y := nI (p1 + l1)) (nI_add (p1) (l1)) ?_
            refine X_aload_n C 0 (D (149, .aload_n 0, 1) (mg 79 rfl)) rfl rfl ?_
            refine X_get (v := .int (hp136 (m) 11)) C (m) 11 (by omega) hsm rfl rfl (by decide) inX8 fX8_238 rfl (D (150, .getfield 238, 3) (mg 80 rfl)) rfl ?_
            refine X_ti (y := nI (n)) (((hc136_6 _ _ (by omega)).trans hb)) ?_
            refine X_icmp_ge (tgt := 215) C (D (153, .if_icmp .ge 62, 3) (mg 81 rfl)) (by decide) (fun q12 => ?_) (fun q12 => ?_)
            · skip
              have q12 : (p1 + l1) ≥ (n) := by have z := (nI_leI (a := (n)) (b := (p1 + l1)) (by omega) (by omega)).mp q12; omega
              have hend : p1 + l1 = eK B n p1 := (rn_stop (Or.inl (by omega))).symm.trans hrk
              refine X_iconst (v := nI (0)) C (D (215, .iconst 0, 1) (mg 112 rfl)) (by decide) ?_
              refine X_istore (ls' := [some (.ref (wA w (m))), some (.int (nI (f0))), some (.int (cc)), some (.int (b3)), some (.int (nI (0)))]) C (D (216, .istore 4, 2) (mg 113 rfl)) (Nat.le_of_ble_eq_true rfl) rfl ?_
              have lp218 : ∀ (nn218 : Nat) (k4 : Nat) (hp218 : xI), (k4 ≤ 2) → (k4 ≤ l1) → (hp218 m 12 = nI p1) → (hp218 m 13 = nI l1) → (∀ q i, (q ≠ m ∨ i < 12 ∨ 15 < i) → hp218 q i = h q i) → (hp218 m 14 = nI (tY B p1)) → (tY B p1 = 2 → hp218 m 15 = vN B p1 (p1 + k4)) → 3 - k4 ≤ nn218 → X k w (Zq k w (pQv (fun h' => fL m h h' ∧ kM B n f0 m h'))) 218 [some (.ref (wA w (m))), some (.int (nI (f0))), some (.int (cc)), some (.int (b3)), some (.int (nI (k4)))] [] hp218 g := by
                intro nn218
                induction nn218 with
                | zero => intro k4 hp218 hc218_0 hc218_1 hc218_2 hc218_3 hc218_4 hc218_5 hc218_6 hz; exact absurd hz (by omega)
                | succ nn218 ih218 =>
                  intro k4 hp218 hc218_0 hc218_1 hc218_2 hc218_3 hc218_4 hc218_5 hc218_6 hz218
                  refine X_iload C (D (218, .iload 4, 2) (mg 114 rfl)) rfl ?_
                  refine X_aload_n C 0 (D (220, .aload_n 0, 1) (mg 115 rfl)) rfl rfl ?_
                  refine X_get (v := .int (hp218 (m) 13)) C (m) 13 (by omega) hsm rfl rfl (by decide) inX8 fX8_253 rfl (D (221, .getfield 253, 3) (mg 116 rfl)) rfl ?_
                  refine X_ti (y := nI (l1)) (hc218_3) ?_
                  refine X_icmp_ge (tgt := 274) C (D (224, .if_icmp .ge 50, 3) (mg 117 rfl)) (by decide) (fun q13 => ?_) (fun q13 => ?_)
                  · skip
                    have q13 : (k4) ≥ (l1) := by have z := (nI_leI (a := (l1)) (b := (k4)) (by omega) (by omega)).mp q13; omega
                    refine X_aload_n C 0 (D (274, .aload_n 0, 1) (mg 143 rfl)) rfl rfl ?_
                    refine X_aload_n C 0 (D (275, .aload_n 0, 1) (mg 144 rfl)) rfl rfl ?_
                    refine X_get (v := .int (hp218 (m) 14)) C (m) 14 (by omega) hsm rfl rfl (by decide) inX8 fX8_256 rfl (D (276, .getfield 256, 3) (mg 145 rfl)) rfl ?_
                    refine X_ti (y := nI (tY B p1)) (hc218_5) ?_
                    refine X_iconst (v := nI (2)) C (D (279, .iconst 2, 1) (mg 146 rfl)) (by decide) ?_
                    refine X_icmp_ne (tgt := 295) C (D (280, .if_icmp .ne 15, 3) (mg 147 rfl)) (by decide) (fun q14 => ?_) (fun q14 => ?_)
                    · skip
                      have q14 : (tY B p1) ≠ (2) := by have z : ¬ ((tY B p1) = (2)) := fun u => q14 ((nI_eq (a := (tY B p1)) (b := (2)) (by omega) (by omega)).mpr u); omega
                      refine X_aload_n C 0 (D (295, .aload_n 0, 1) (mg 154 rfl)) rfl rfl ?_
                      refine X_get (v := .int (hp218 (m) 14)) C (m) 14 (by omega) hsm rfl rfl (by decide) inX8 fX8_256 rfl (D (296, .getfield 256, 3) (mg 155 rfl)) rfl ?_
                      refine X_ti (y := nI (tY B p1)) (hc218_5) ?_
                      refine X_putI C (m) 14 tyX8 tyX8_ok nmX8 (by omega) hsm rfl rfl (by decide) inX8 fX8_256 rfl rfl (by decide +kernel) (D (299, .putfield 256, 3) (mg 156 rfl)) ?_
                      exact X_vret C (D (302, .return_, 1) (mg 157 rfl)) (have ht_ := lk_t hc114_4 (by omega); ⟨rfl, (fun q i z => by rw [u2_ne _ _ _ _ (by omega)]; exact hc218_4 q i z), by rw [hc114_4]; exact (((u2_i _ _ _ _ (by omega))).trans hc218_2), by rw [ht_.1, hc114_4, show eK B n p1 - p1 = l1 by omega]; exact (((u2_i _ _ _ _ (by omega))).trans hc218_3), by rw [ht_.2.1]; first | (rw [if_neg (by omega)]; exact ((u2_s _ _ _ _))) | (rw [if_pos (by omega), if_pos (by omega)]; exact (((u2_s _ _ _ _))).trans (by rw [show tY B p1 = 2 by omega])), fun u_ => by obtain ⟨h2_, h3_⟩ := lk_w hc114_4 (by omega) u_; rw [ht_.2.2 h2_, ← show p1 + k4 = eK B n p1 by omega]; exact (u2_i _ _ _ _ (by omega)).trans (hc218_6 h2_)⟩)
                    · skip
                      have q14 : (tY B p1) = (2) := by have z := (nI_eq (a := (tY B p1)) (b := (2)) (by omega) (by omega)).mp q14; omega
                      refine X_aload_n C 0 (D (283, .aload_n 0, 1) (mg 148 rfl)) rfl rfl ?_
                      refine X_get (v := .int (hp218 (m) 13)) C (m) 13 (by omega) hsm rfl rfl (by decide) inX8 fX8_253 rfl (D (284, .getfield 253, 3) (mg 149 rfl)) rfl ?_
                      refine X_ti (y := nI (l1)) (hc218_3) ?_
                      refine X_iconst (v := nI (2)) C (D (287, .iconst 2, 1) (mg 150 rfl)) (by decide) ?_
                      refine X_icmp_le (tgt := 295) C (D (288, .if_icmp .le 7, 3) (mg 151 rfl)) (by decide) (fun q15 => ?_) (fun q15 => ?_)
                      · skip
                        have q15 : (l1) ≤ (2) := by have z := (nI_leI (a := (l1)) (b := (2)) (by omega) (by omega)).mp q15; omega
                        refine X_aload_n C 0 (D (295, .aload_n 0, 1) (mg 154 rfl)) rfl rfl ?_
                        refine X_get (v := .int (hp218 (m) 14)) C (m) 14 (by omega) hsm rfl rfl (by decide) inX8 fX8_256 rfl (D (296, .getfield 256, 3) (mg 155 rfl)) rfl ?_
                        refine X_ti (y := nI (tY B p1)) (hc218_5) ?_
                        refine X_putI C (m) 14 tyX8 tyX8_ok nmX8 (by omega) hsm rfl rfl (by decide) inX8 fX8_256 rfl rfl (by decide +kernel) (D (299, .putfield 256, 3) (mg 156 rfl)) ?_
                        exact X_vret C (D (302, .return_, 1) (mg 157 rfl)) (have ht_ := lk_t hc114_4 (by omega); ⟨rfl, (fun q i z => by rw [u2_ne _ _ _ _ (by omega)]; exact hc218_4 q i z), by rw [hc114_4]; exact (((u2_i _ _ _ _ (by omega))).trans hc218_2), by rw [ht_.1, hc114_4, show eK B n p1 - p1 = l1 by omega]; exact (((u2_i _ _ _ _ (by omega))).trans hc218_3), by rw [ht_.2.1]; first | (rw [if_neg (by omega)]; exact ((u2_s _ _ _ _))) | (rw [if_pos (by omega), if_pos (by omega)]; exact (((u2_s _ _ _ _))).trans (by rw [show tY B p1 = 2 by omega])), fun u_ => by obtain ⟨h2_, h3_⟩ := lk_w hc114_4 (by omega) u_; rw [ht_.2.2 h2_, ← show p1 + k4 = eK B n p1 by omega]; exact (u2_i _ _ _ _ (by omega)).trans (hc218_6 h2_)⟩)
                      · skip
                        have q15 : (l1) > (2) := by have z : ¬ ((l1) ≤ (2)) := fun u => q15 ((nI_leI (a := (l1)) (b := (2)) (by omega) (by omega)).mpr u); omega
                        refine X_iconst (v := nI (4)) C (D (291, .iconst 4, 1) (mg 152 rfl)) (by decide) ?_
                        refine X_goto (tgt := 299) C (D (292, .goto 7, 3) (mg 153 rfl)) (by decide) ?_
                        refine X_putI C (m) 14 tyX8 tyX8_ok nmX8 (by omega) hsm rfl rfl (by decide) inX8 fX8_256 rfl rfl (by decide +kernel) (D (299, .putfield 256, 3) (mg 156 rfl)) ?_
                        exact X_vret C (D (302, .return_, 1) (mg 157 rfl)) (have ht_ := lk_t hc114_4 (by omega); ⟨rfl, (fun q i z => by rw [u2_ne _ _ _ _ (by omega)]; exact hc218_4 q i z), by rw [hc114_4]; exact (((u2_i _ _ _ _ (by omega))).trans hc218_2), by rw [ht_.1, hc114_4, show eK B n p1 - p1 = l1 by omega]; exact (((u2_i _ _ _ _ (by omega))).trans hc218_3), by rw [ht_.2.1, if_pos (by omega), if_neg (by omega)]; exact ((u2_s _ _ _ _)), fun u_ => by obtain ⟨h2_, h3_⟩ := lk_w hc114_4 (by omega) u_; rw [ht_.2.2 h2_, ← show p1 + k4 = eK B n p1 by omega]; exact (u2_i _ _ _ _ (by omega)).trans (hc218_6 h2_)⟩)
                  · skip
                    have q13 : (k4) < (l1) := by have z : ¬ ((l1) ≤ (k4)) := fun u => q13 ((nI_leI (a := (l1)) (b := (k4)) (by omega) (by omega)).mpr u); omega
                    refine X_iload C (D (227, .iload 4, 2) (mg 118 rfl)) rfl ?_
                    refine X_iconst (v := nI (2)) C (D (229, .iconst 2, 1) (mg 119 rfl)) (by decide) ?_
                    refine X_icmp_ge (tgt := 274) C (D (230, .if_icmp .ge 44, 3) (mg 120 rfl)) (by decide) (fun q16 => ?_) (fun q16 => ?_)
                    · skip
                      have q16 : (k4) ≥ (2) := by have z := (nI_leI (a := (2)) (b := (k4)) (by omega) (by omega)).mp q16; omega
                      refine X_aload_n C 0 (D (274, .aload_n 0, 1) (mg 143 rfl)) rfl rfl ?_
                      refine X_aload_n C 0 (D (275, .aload_n 0, 1) (mg 144 rfl)) rfl rfl ?_
                      refine X_get (v := .int (hp218 (m) 14)) C (m) 14 (by omega) hsm rfl rfl (by decide) inX8 fX8_256 rfl (D (276, .getfield 256, 3) (mg 145 rfl)) rfl ?_
                      refine X_ti (y := nI (tY B p1)) (hc218_5) ?_
                      refine X_iconst (v := nI (2)) C (D (279, .iconst 2, 1) (mg 146 rfl)) (by decide) ?_
                      refine X_icmp_ne (tgt := 295) C (D (280, .if_icmp .ne 15, 3) (mg 147 rfl)) (by decide) (fun q17 => ?_) (fun q17 => ?_)
                      · skip
                        have q17 : (tY B p1) ≠ (2) := by have z : ¬ ((tY B p1) = (2)) := fun u => q17 ((nI_eq (a := (tY B p1)) (b := (2)) (by omega) (by omega)).mpr u); omega
                        refine X_aload_n C 0 (D (295, .aload_n 0, 1) (mg 154 rfl)) rfl rfl ?_
                        refine X_get (v := .int (hp218 (m) 14)) C (m) 14 (by omega) hsm rfl rfl (by decide) inX8 fX8_256 rfl (D (296, .getfield 256, 3) (mg 155 rfl)) rfl ?_
                        refine X_ti (y := nI (tY B p1)) (hc218_5) ?_
                        refine X_putI C (m) 14 tyX8 tyX8_ok nmX8 (by omega) hsm rfl rfl (by decide) inX8 fX8_256 rfl rfl (by decide +kernel) (D (299, .putfield 256, 3) (mg 156 rfl)) ?_
                        exact X_vret C (D (302, .return_, 1) (mg 157 rfl)) (have ht_ := lk_t hc114_4 (by omega); ⟨rfl, (fun q i z => by rw [u2_ne _ _ _ _ (by omega)]; exact hc218_4 q i z), by rw [hc114_4]; exact (((u2_i _ _ _ _ (by omega))).trans hc218_2), by rw [ht_.1, hc114_4, show eK B n p1 - p1 = l1 by omega]; exact (((u2_i _ _ _ _ (by omega))).trans hc218_3), by rw [ht_.2.1]; first | (rw [if_neg (by omega)]; exact ((u2_s _ _ _ _))) | (rw [if_pos (by omega), if_pos (by omega)]; exact (((u2_s _ _ _ _))).trans (by rw [show tY B p1 = 2 by omega])), fun u_ => by obtain ⟨h2_, h3_⟩ := lk_w hc114_4 (by omega) u_; rw [ht_.2.2 h2_, ← show p1 + k4 = eK B n p1 by omega]; exact (u2_i _ _ _ _ (by omega)).trans (hc218_6 h2_)⟩)
                      · skip
                        have q17 : (tY B p1) = (2) := by have z := (nI_eq (a := (tY B p1)) (b := (2)) (by omega) (by omega)).mp q17; omega
                        refine X_aload_n C 0 (D (283, .aload_n 0, 1) (mg 148 rfl)) rfl rfl ?_
                        refine X_get (v := .int (hp218 (m) 13)) C (m) 13 (by omega) hsm rfl rfl (by decide) inX8 fX8_253 rfl (D (284, .getfield 253, 3) (mg 149 rfl)) rfl ?_
                        refine X_ti (y := nI (l1)) (hc218_3) ?_
                        refine X_iconst (v := nI (2)) C (D (287, .iconst 2, 1) (mg 150 rfl)) (by decide) ?_
                        refine X_icmp_le (tgt := 295) C (D (288, .if_icmp .le 7, 3) (mg 151 rfl)) (by decide) (fun q18 => ?_) (fun q18 => ?_)
                        · skip
                          have q18 : (l1) ≤ (2) := by have z := (nI_leI (a := (l1)) (b := (2)) (by omega) (by omega)).mp q18; omega
                          refine X_aload_n C 0 (D (295, .aload_n 0, 1) (mg 154 rfl)) rfl rfl ?_
                          refine X_get (v := .int (hp218 (m) 14)) C (m) 14 (by omega) hsm rfl rfl (by decide) inX8 fX8_256 rfl (D (296, .getfield 256, 3) (mg 155 rfl)) rfl ?_
                          refine X_ti (y := nI (tY B p1)) (hc218_5) ?_
                          refine X_putI C (m) 14 tyX8 tyX8_ok nmX8 (by omega) hsm rfl rfl (by decide) inX8 fX8_256 rfl rfl (by decide +kernel) (D (299, .putfield 256, 3) (mg 156 rfl)) ?_
                          exact X_vret C (D (302, .return_, 1) (mg 157 rfl)) (have ht_ := lk_t hc114_4 (by omega); ⟨rfl, (fun q i z => by rw [u2_ne _ _ _ _ (by omega)]; exact hc218_4 q i z), by rw [hc114_4]; exact (((u2_i _ _ _ _ (by omega))).trans hc218_2), by rw [ht_.1, hc114_4, show eK B n p1 - p1 = l1 by omega]; exact (((u2_i _ _ _ _ (by omega))).trans hc218_3), by rw [ht_.2.1]; first | (rw [if_neg (by omega)]; exact ((u2_s _ _ _ _))) | (rw [if_pos (by omega), if_pos (by omega)]; exact (((u2_s _ _ _ _))).trans (by rw [show tY B p1 = 2 by omega])), fun u_ => by obtain ⟨h2_, h3_⟩ := lk_w hc114_4 (by omega) u_; rw [ht_.2.2 h2_, ← show p1 + k4 = eK B n p1 by omega]; exact (u2_i _ _ _ _ (by omega)).trans (hc218_6 h2_)⟩)
                        · skip
                          have q18 : (l1) > (2) := by have z : ¬ ((l1) ≤ (2)) := fun u => q18 ((nI_leI (a := (l1)) (b := (2)) (by omega) (by omega)).mpr u); omega
                          refine X_iconst (v := nI (4)) C (D (291, .iconst 4, 1) (mg 152 rfl)) (by decide) ?_
                          refine X_goto (tgt := 299) C (D (292, .goto 7, 3) (mg 153 rfl)) (by decide) ?_
                          refine X_putI C (m) 14 tyX8 tyX8_ok nmX8 (by omega) hsm rfl rfl (by decide) inX8 fX8_256 rfl rfl (by decide +kernel) (D (299, .putfield 256, 3) (mg 156 rfl)) ?_
                          exact X_vret C (D (302, .return_, 1) (mg 157 rfl)) (have ht_ := lk_t hc114_4 (by omega); ⟨rfl, (fun q i z => by rw [u2_ne _ _ _ _ (by omega)]; exact hc218_4 q i z), by rw [hc114_4]; exact (((u2_i _ _ _ _ (by omega))).trans hc218_2), by rw [ht_.1, hc114_4, show eK B n p1 - p1 = l1 by omega]; exact (((u2_i _ _ _ _ (by omega))).trans hc218_3), by rw [ht_.2.1, if_pos (by omega), if_neg (by omega)]; exact ((u2_s _ _ _ _)), fun u_ => by obtain ⟨h2_, h3_⟩ := lk_w hc114_4 (by omega) u_; rw [ht_.2.2 h2_, ← show p1 + k4 = eK B n p1 by omega]; exact (u2_i _ _ _ _ (by omega)).trans (hc218_6 h2_)⟩)
                    · skip
                      have q16 : (k4) < (2) := by have z : ¬ ((2) ≤ (k4)) := fun u => q16 ((nI_leI (a := (2)) (b := (k4)) (by omega) (by omega)).mpr u); omega
                      refine X_aload_n C 0 (D (233, .aload_n 0, 1) (mg 121 rfl)) rfl rfl ?_
                      refine X_get (v := .int (hp218 (m) 14)) C (m) 14 (by omega) hsm rfl rfl (by decide) inX8 fX8_256 rfl (D (234, .getfield 256, 3) (mg 122 rfl)) rfl ?_
                      refine X_ti (y := nI (tY B p1)) (hc218_5) ?_
                      refine X_iconst (v := nI (2)) C (D (237, .iconst 2, 1) (mg 123 rfl)) (by decide) ?_
                      refine X_icmp_ne (tgt := 274) C (D (238, .if_icmp .ne 36, 3) (mg 124 rfl)) (by decide) (fun q19 => ?_) (fun q19 => ?_)
                      · skip
                        have q19 : (tY B p1) ≠ (2) := by have z : ¬ ((tY B p1) = (2)) := fun u => q19 ((nI_eq (a := (tY B p1)) (b := (2)) (by omega) (by omega)).mpr u); omega
                        refine X_aload_n C 0 (D (274, .aload_n 0, 1) (mg 143 rfl)) rfl rfl ?_
                        refine X_aload_n C 0 (D (275, .aload_n 0, 1) (mg 144 rfl)) rfl rfl ?_
                        refine X_get (v := .int (hp218 (m) 14)) C (m) 14 (by omega) hsm rfl rfl (by decide) inX8 fX8_256 rfl (D (276, .getfield 256, 3) (mg 145 rfl)) rfl ?_
                        refine X_ti (y := nI (tY B p1)) (hc218_5) ?_
                        refine X_iconst (v := nI (2)) C (D (279, .iconst 2, 1) (mg 146 rfl)) (by decide) ?_
                        refine X_icmp_ne (tgt := 295) C (D (280, .if_icmp .ne 15, 3) (mg 147 rfl)) (by decide) (fun q20 => ?_) (fun q20 => ?_)
                        · skip
                          have q20 : (tY B p1) ≠ (2) := by have z : ¬ ((tY B p1) = (2)) := fun u => q20 ((nI_eq (a := (tY B p1)) (b := (2)) (by omega) (by omega)).mpr u); omega
                          refine X_aload_n C 0 (D (295, .aload_n 0, 1) (mg 154 rfl)) rfl rfl ?_
                          refine X_get (v := .int (hp218 (m) 14)) C (m) 14 (by omega) hsm rfl rfl (by decide) inX8 fX8_256 rfl (D (296, .getfield 256, 3) (mg 155 rfl)) rfl ?_
                          refine X_ti (y := nI (tY B p1)) (hc218_5) ?_
                          refine X_putI C (m) 14 tyX8 tyX8_ok nmX8 (by omega) hsm rfl rfl (by decide) inX8 fX8_256 rfl rfl (by decide +kernel) (D (299, .putfield 256, 3) (mg 156 rfl)) ?_
                          exact X_vret C (D (302, .return_, 1) (mg 157 rfl)) (have ht_ := lk_t hc114_4 (by omega); ⟨rfl, (fun q i z => by rw [u2_ne _ _ _ _ (by omega)]; exact hc218_4 q i z), by rw [hc114_4]; exact (((u2_i _ _ _ _ (by omega))).trans hc218_2), by rw [ht_.1, hc114_4, show eK B n p1 - p1 = l1 by omega]; exact (((u2_i _ _ _ _ (by omega))).trans hc218_3), by rw [ht_.2.1]; first | (rw [if_neg (by omega)]; exact ((u2_s _ _ _ _))) | (rw [if_pos (by omega), if_pos (by omega)]; exact (((u2_s _ _ _ _))).trans (by rw [show tY B p1 = 2 by omega])), fun u_ => by obtain ⟨h2_, h3_⟩ := lk_w hc114_4 (by omega) u_; rw [ht_.2.2 h2_, ← show p1 + k4 = eK B n p1 by omega]; exact (u2_i _ _ _ _ (by omega)).trans (hc218_6 h2_)⟩)
                        · skip
                          have q20 : (tY B p1) = (2) := by have z := (nI_eq (a := (tY B p1)) (b := (2)) (by omega) (by omega)).mp q20; omega
                          refine X_aload_n C 0 (D (283, .aload_n 0, 1) (mg 148 rfl)) rfl rfl ?_
                          refine X_get (v := .int (hp218 (m) 13)) C (m) 13 (by omega) hsm rfl rfl (by decide) inX8 fX8_253 rfl (D (284, .getfield 253, 3) (mg 149 rfl)) rfl ?_
                          refine X_ti (y := nI (l1)) (hc218_3) ?_
                          refine X_iconst (v := nI (2)) C (D (287, .iconst 2, 1) (mg 150 rfl)) (by decide) ?_
                          refine X_icmp_le (tgt := 295) C (D (288, .if_icmp .le 7, 3) (mg 151 rfl)) (by decide) (fun q21 => ?_) (fun q21 => ?_)
                          · skip
                            have q21 : (l1) ≤ (2) := by have z := (nI_leI (a := (l1)) (b := (2)) (by omega) (by omega)).mp q21; omega
                            refine X_aload_n C 0 (D (295, .aload_n 0, 1) (mg 154 rfl)) rfl rfl ?_
                            refine X_get (v := .int (hp218 (m) 14)) C (m) 14 (by omega) hsm rfl rfl (by decide) inX8 fX8_256 rfl (D (296, .getfield 256, 3) (mg 155 rfl)) rfl ?_
                            refine X_ti (y := nI (tY B p1)) (hc218_5) ?_
                            refine X_putI C (m) 14 tyX8 tyX8_ok nmX8 (by omega) hsm rfl rfl (by decide) inX8 fX8_256 rfl rfl (by decide +kernel) (D (299, .putfield 256, 3) (mg 156 rfl)) ?_
                            exact X_vret C (D (302, .return_, 1) (mg 157 rfl)) (have ht_ := lk_t hc114_4 (by omega); ⟨rfl, (fun q i z => by rw [u2_ne _ _ _ _ (by omega)]; exact hc218_4 q i z), by rw [hc114_4]; exact (((u2_i _ _ _ _ (by omega))).trans hc218_2), by rw [ht_.1, hc114_4, show eK B n p1 - p1 = l1 by omega]; exact (((u2_i _ _ _ _ (by omega))).trans hc218_3), by rw [ht_.2.1]; first | (rw [if_neg (by omega)]; exact ((u2_s _ _ _ _))) | (rw [if_pos (by omega), if_pos (by omega)]; exact (((u2_s _ _ _ _))).trans (by rw [show tY B p1 = 2 by omega])), fun u_ => by obtain ⟨h2_, h3_⟩ := lk_w hc114_4 (by omega) u_; rw [ht_.2.2 h2_, ← show p1 + k4 = eK B n p1 by omega]; exact (u2_i _ _ _ _ (by omega)).trans (hc218_6 h2_)⟩)
                          · skip
                            have q21 : (l1) > (2) := by have z : ¬ ((l1) ≤ (2)) := fun u => q21 ((nI_leI (a := (l1)) (b := (2)) (by omega) (by omega)).mpr u); omega
                            refine X_iconst (v := nI (4)) C (D (291, .iconst 4, 1) (mg 152 rfl)) (by decide) ?_
                            refine X_goto (tgt := 299) C (D (292, .goto 7, 3) (mg 153 rfl)) (by decide) ?_
                            refine X_putI C (m) 14 tyX8 tyX8_ok nmX8 (by omega) hsm rfl rfl (by decide) inX8 fX8_256 rfl rfl (by decide +kernel) (D (299, .putfield 256, 3) (mg 156 rfl)) ?_
                            exact X_vret C (D (302, .return_, 1) (mg 157 rfl)) (have ht_ := lk_t hc114_4 (by omega); ⟨rfl, (fun q i z => by rw [u2_ne _ _ _ _ (by omega)]; exact hc218_4 q i z), by rw [hc114_4]; exact (((u2_i _ _ _ _ (by omega))).trans hc218_2), by rw [ht_.1, hc114_4, show eK B n p1 - p1 = l1 by omega]; exact (((u2_i _ _ _ _ (by omega))).trans hc218_3), by rw [ht_.2.1, if_pos (by omega), if_neg (by omega)]; exact ((u2_s _ _ _ _)), fun u_ => by obtain ⟨h2_, h3_⟩ := lk_w hc114_4 (by omega) u_; rw [ht_.2.2 h2_, ← show p1 + k4 = eK B n p1 by omega]; exact (u2_i _ _ _ _ (by omega)).trans (hc218_6 h2_)⟩)
                      · skip
                        have q19 : (tY B p1) = (2) := by have z := (nI_eq (a := (tY B p1)) (b := (2)) (by omega) (by omega)).mp q19; omega
                        refine X_aload_n C 0 (D (241, .aload_n 0, 1) (mg 125 rfl)) rfl rfl ?_
                        refine X_bipush (v := nI (10)) C (D (242, .bipush 10, 2) (mg 126 rfl)) (by decide) ?_
                        refine X_aload_n C 0 (D (244, .aload_n 0, 1) (mg 127 rfl)) rfl rfl ?_
                        refine X_get (v := .int (hp218 (m) 15)) C (m) 15 (by omega) hsm rfl rfl (by decide) inX8 fX8_259 rfl (D (245, .getfield 259, 3) (mg 128 rfl)) rfl ?_
                        refine X_ti (y := vN B p1 (p1 + k4)) ((hc218_6 q19)) ?_
                        refine X_imul C (D (248, .imul, 1) (mg 129 rfl)) ?_
                        refine X_aload_n C 0 (D (249, .aload_n 0, 1) (mg 130 rfl)) rfl rfl ?_
                        refine X_get (v := .ref (wA w (m + 9))) C (m) 10 (by omega) hsm rfl rfl (by decide) inX8 fX8_39 rfl (D (250, .getfield 39, 3) (mg 131 rfl)) rfl ?_
                        refine X_aload_n C 0 (D (253, .aload_n 0, 1) (mg 132 rfl)) rfl rfl ?_
                        refine X_get (v := .int (hp218 (m) 12)) C (m) 12 (by omega) hsm rfl rfl (by decide) inX8 fX8_250 rfl (D (254, .getfield 250, 3) (mg 133 rfl)) rfl ?_
                        refine X_ti (y := nI (p1)) (hc218_2) ?_
                        refine X_iload C (D (257, .iload 4, 2) (mg 134 rfl)) rfl ?_
                        refine X_iadd C (D (259, .iadd, 1) (mg 135 rfl)) ?_
                        refine X_ti (y := nI (p1 + k4)) (nI_add (p1) (k4)) ?_
                        refine X_iald (v := hp218 (m + 9) (p1 + k4)) C (m + 9) (by omega) hs9 (vp_in_nI (by omega) (by omega)) (D (260, .iaload, 1) (mg 136 rfl)) (by rw [nI_clamp (by omega)]) ?_
                        refine X_iadd C (D (261, .iadd, 1) (mg 137 rfl)) ?_
                        refine X_bipush (v := nI (48)) C (D (262, .bipush 48, 2) (mg 138 rfl)) (by decide) ?_
                        refine X_isub C (D (264, .isub, 1) (mg 139 rfl)) ?_
                        refine X_putI C (m) 15 tyX8 tyX8_ok nmX8 (by omega) hsm rfl rfl (by decide) inX8 fX8_259 rfl rfl (by decide +kernel) (D (265, .putfield 259, 3) (mg 140 rfl)) ?_
                        refine X_iinc (v := nI (k4 + 1)) (ls' := [some (.ref (wA w (m))), some (.int (nI (f0))), some (.int (cc)), some (.int (b3)), some (.int (nI (k4 + 1)))]) C (D (268, .iinc 4 1, 3) (mg 141 rfl)) rfl (nI_add (k4) 1) rfl ?_
                        refine X_goto (tgt := 218) C (D (271, .goto (-53), 3) (mg 142 rfl)) (by decide) ?_
                        refine X_eq (ls' := [some (.ref (wA w (m))), some (.int (nI (f0))), some (.int (cc)), some (.int (b3)), some (.int (nI (k4 + 1)))]) (st' := []) (h' := (u2 hp218 (m) 15 ((((nI (10)) * (vN B p1 (p1 + k4))) + (hp218 (m + 9) (p1 + k4))) - (nI (48))))) (g' := g) rfl rfl rfl rfl ?_
                        exact ih218 (k4 + 1) ((u2 hp218 (m) 15 ((((nI (10)) * (vN B p1 (p1 + k4))) + (hp218 (m + 9) (p1 + k4))) - (nI (48))))) (by omega) (by omega) (((u2_i _ _ _ _ (by omega))).trans hc218_2) (((u2_i _ _ _ _ (by omega))).trans hc218_3) (fun q i z => by rw [u2_ne _ _ _ _ (by omega)]; exact hc218_4 q i z) (((u2_i _ _ _ _ (by omega))).trans hc218_5) (fun _ => (((u2_s _ _ _ _))).trans (vN_s (e := p1 + k4) (by omega) (by omega) ((hc218_4 _ _ (by omega)).trans (hB _ (by omega))))) (by omega)
              refine X_eq (ls' := [some (.ref (wA w (m))), some (.int (nI (f0))), some (.int (cc)), some (.int (b3)), some (.int (nI (0)))]) (st' := []) (h' := hp136) (g' := g) rfl rfl rfl rfl ?_
              exact lp218 _ (0) (hp136) (by omega) (by omega) (hc136_4) (hc136_5) (fun q i z => by skip; exact hc136_6 q i z) (hc136_7) (fun _ => by rw [Nat.add_zero, vN_0]; exact (hc136_8)) (Nat.le_refl _)
            · skip
              have q12 : (p1 + l1) < (n) := by have z : ¬ ((n) ≤ (p1 + l1)) := fun u => q12 ((nI_leI (a := (n)) (b := (p1 + l1)) (by omega) (by omega)).mpr u); omega
              refine X_aload_n C 0 (D (156, .aload_n 0, 1) (mg 82 rfl)) rfl rfl ?_
              refine X_get (v := .ref (wA w (m + 9))) C (m) 10 (by omega) hsm rfl rfl (by decide) inX8 fX8_39 rfl (D (157, .getfield 39, 3) (mg 83 rfl)) rfl ?_
              refine X_aload_n C 0 (D (160, .aload_n 0, 1) (mg 84 rfl)) rfl rfl ?_
              refine X_get (v := .int (hp136 (m) 12)) C (m) 12 (by omega) hsm rfl rfl (by decide) inX8 fX8_250 rfl (D (161, .getfield 250, 3) (mg 85 rfl)) rfl ?_
              refine X_ti (y := nI (p1)) (hc136_4) ?_
              refine X_aload_n C 0 (D (164, .aload_n 0, 1) (mg 86 rfl)) rfl rfl ?_
              refine X_get (v := .int (hp136 (m) 13)) C (m) 13 (by omega) hsm rfl rfl (by decide) inX8 fX8_253 rfl (D (165, .getfield 253, 3) (mg 87 rfl)) rfl ?_
              refine X_ti (y := nI (l1)) (hc136_5) ?_
              refine X_iadd C (D (168, .iadd, 1) (mg 88 rfl)) ?_
              refine X_ti (y := nI (p1 + l1)) (nI_add (p1) (l1)) ?_
              refine X_iald (v := hp136 (m + 9) (p1 + l1)) C (m + 9) (by omega) hs9 (vp_in_nI (by omega) (by omega)) (D (169, .iaload, 1) (mg 89 rfl)) (by rw [nI_clamp (by omega)]) ?_
              refine X_istore (ls' := [some (.ref (wA w (m))), some (.int (nI (f0))), some (.int (cc)), some (.int (b3)), some (.int (hp136 (m + 9) (p1 + l1)))]) C (D (170, .istore 4, 2) (mg 90 rfl)) (Nat.le_of_ble_eq_true rfl) rfl ?_
              refine X_aload_n C 0 (D (172, .aload_n 0, 1) (mg 91 rfl)) rfl rfl ?_
              refine X_get (v := .int (hp136 (m) 14)) C (m) 14 (by omega) hsm rfl rfl (by decide) inX8 fX8_256 rfl (D (173, .getfield 256, 3) (mg 92 rfl)) rfl ?_
              refine X_ti (y := nI (tY B p1)) (hc136_7) ?_
              refine X_iconst (v := nI (1)) C (D (176, .iconst 1, 1) (mg 93 rfl)) (by decide) ?_
              refine X_icmp_ne (tgt := 188) C (D (177, .if_icmp .ne 11, 3) (mg 94 rfl)) (by decide) (fun q22 => ?_) (fun q22 => ?_)
              · skip
                have q22 : (tY B p1) ≠ (1) := by have z : ¬ ((tY B p1) = (1)) := fun u => q22 ((nI_eq (a := (tY B p1)) (b := (1)) (by omega) (by omega)).mpr u); omega
                refine X_iload C (D (188, .iload 4, 2) (mg 98 rfl)) rfl ?_
                refine X_cS (As := [.int (hp136 (m + 9) (p1 + l1))]) (st := []) C (post := _) (ct_X8_isFigure hw (hp136 (m + 9) (p1 + l1)) hp136 g) kX8_265 (by decide) (by decide) rfl rfl (Nat.le_of_ble_eq_true rfl) (D (190, .invokestatic 265, 3) (mg 99 rfl)) rfl (fun v25 H23 G24 hv25 => ?_)
                obtain ⟨rfl, rfl, rfl⟩ := hv25
                show X k w _ 193 [some (.ref (wA w (m))), some (.int (nI (f0))), some (.int (cc)), some (.int (b3)), some (.int (hp136 (m + 9) (p1 + l1)))] [.int (if 48 ≤ (hp136 (m + 9) (p1 + l1)).toInt ∧ (hp136 (m + 9) (p1 + l1)).toInt ≤ 57 then 1 else 0)] hp136 g
                refine X_istore_n (ls' := [some (.ref (wA w (m))), some (.int (nI (f0))), some (.int (cc)), some (.int (if 48 ≤ (hp136 (m + 9) (p1 + l1)).toInt ∧ (hp136 (m + 9) (p1 + l1)).toInt ≤ 57 then 1 else 0)), some (.int (hp136 (m + 9) (p1 + l1)))]) C 3 (D (193, .istore_n 3, 1) (mg 100 rfl)) rfl (Nat.le_of_ble_eq_true rfl) rfl ?_
                refine X_aload_n C 0 (D (194, .aload_n 0, 1) (mg 101 rfl)) rfl rfl ?_
                refine X_dup C (D (195, .dup, 1) (mg 102 rfl)) rfl ?_
                refine X_get (v := .int (hp136 (m) 13)) C (m) 13 (by omega) hsm rfl rfl (by decide) inX8 fX8_253 rfl (D (196, .getfield 253, 3) (mg 103 rfl)) rfl ?_
                refine X_ti (y := nI (l1)) (hc136_5) ?_
                refine X_iload_n C 3 (D (199, .iload_n 3, 1) (mg 104 rfl)) rfl rfl ?_
                refine X_if_eq (tgt := 207) C (D (200, .ifCond .eq 7, 3) (mg 105 rfl)) (by decide) (fun q26 => ?_) (fun q26 => ?_)
                · skip
                  have q26 : ¬ (48 ≤ (hp136 (m + 9) (p1 + l1)).toInt ∧ (hp136 (m + 9) (p1 + l1)).toInt ≤ 57) := bz0.mp q26
                  have hpk : pk B p1 (B (p1 + l1)) = false := by rw [pk2 (by omega)]; exact isFi_f (by rw [← hB (p1 + l1) (by omega), ← hc136_6 (m + 9) (p1 + l1) (by omega)]; exact q26)
                  refine X_iconst (v := nI (0)) C (D (207, .iconst 0, 1) (mg 108 rfl)) (by decide) ?_
                  refine X_iadd C (D (208, .iadd, 1) (mg 109 rfl)) ?_
                  refine X_ti (y := nI (l1 + 0)) (nI_add (l1) (0)) ?_
                  refine X_putI C (m) 13 tyX8 tyX8_ok nmX8 (by omega) hsm rfl rfl (by decide) inX8 fX8_253 rfl rfl (by decide +kernel) (D (209, .putfield 253, 3) (mg 110 rfl)) ?_
                  refine X_goto (tgt := 136) C (D (212, .goto (-76), 3) (mg 111 rfl)) (by decide) ?_
                  refine X_los (ls' := [some (.ref (wA w (m))), some (.int (nI (f0))), some (.int (cc)), some (.int (if 48 ≤ (hp136 (m + 9) (p1 + l1)).toInt ∧ (hp136 (m + 9) (p1 + l1)).toInt ≤ 57 then 1 else 0)), none]) (by simp [lsub]) ?_
                  refine X_eq (ls' := [some (.ref (wA w (m))), some (.int (nI (f0))), some (.int (cc)), some (.int (if 48 ≤ (hp136 (m + 9) (p1 + l1)).toInt ∧ (hp136 (m + 9) (p1 + l1)).toInt ≤ 57 then 1 else 0)), none]) (st' := []) (h' := (u2 hp136 (m) 13 (nI (l1 + 0)))) (g' := g) rfl rfl rfl rfl ?_
                  exact ih136 (l1 + 0) (0) (if 48 ≤ (hp136 (m + 9) (p1 + l1)).toInt ∧ (hp136 (m + 9) (p1 + l1)).toInt ≤ 57 then 1 else 0) ((u2 hp136 (m) 13 (nI (l1 + 0)))) (by omega) (by omega) (by omega) (fun _ => if_neg (by assumption)) (((u2_i _ _ _ _ (by omega))).trans hc136_4) ((u2_s _ _ _ _)) (fun q i z => by rw [u2_ne _ _ _ _ (by omega)]; exact hc136_6 q i z) (((u2_i _ _ _ _ (by omega))).trans hc136_7) (((u2_i _ _ _ _ (by omega))).trans hc136_8) (fun u_ => absurd (if_neg (by assumption)) u_) (fun _ => (rn_stop (Or.inr hpk)).symm.trans hrk) (by omega)
                · skip
                  have q26 : (48 ≤ (hp136 (m + 9) (p1 + l1)).toInt ∧ (hp136 (m + 9) (p1 + l1)).toInt ≤ 57) := bz1.mp q26
                  have hpk : pk B p1 (B (p1 + l1)) = true := by rw [pk2 (by omega)]; exact isFi_t (by rw [← hB (p1 + l1) (by omega), ← hc136_6 (m + 9) (p1 + l1) (by omega)]; exact q26)
                  refine X_iconst (v := nI (1)) C (D (203, .iconst 1, 1) (mg 106 rfl)) (by decide) ?_
                  refine X_goto (tgt := 208) C (D (204, .goto 4, 3) (mg 107 rfl)) (by decide) ?_
                  refine X_iadd C (D (208, .iadd, 1) (mg 109 rfl)) ?_
                  refine X_ti (y := nI (l1 + 1)) (nI_add (l1) (1)) ?_
                  refine X_putI C (m) 13 tyX8 tyX8_ok nmX8 (by omega) hsm rfl rfl (by decide) inX8 fX8_253 rfl rfl (by decide +kernel) (D (209, .putfield 253, 3) (mg 110 rfl)) ?_
                  refine X_goto (tgt := 136) C (D (212, .goto (-76), 3) (mg 111 rfl)) (by decide) ?_
                  refine X_los (ls' := [some (.ref (wA w (m))), some (.int (nI (f0))), some (.int (cc)), some (.int (if 48 ≤ (hp136 (m + 9) (p1 + l1)).toInt ∧ (hp136 (m + 9) (p1 + l1)).toInt ≤ 57 then 1 else 0)), none]) (by simp [lsub]) ?_
                  refine X_eq (ls' := [some (.ref (wA w (m))), some (.int (nI (f0))), some (.int (cc)), some (.int (if 48 ≤ (hp136 (m + 9) (p1 + l1)).toInt ∧ (hp136 (m + 9) (p1 + l1)).toInt ≤ 57 then 1 else 0)), none]) (st' := []) (h' := (u2 hp136 (m) 13 (nI (l1 + 1)))) (g' := g) rfl rfl rfl rfl ?_
                  exact ih136 (l1 + 1) (1) (if 48 ≤ (hp136 (m + 9) (p1 + l1)).toInt ∧ (hp136 (m + 9) (p1 + l1)).toInt ≤ 57 then 1 else 0) ((u2 hp136 (m) 13 (nI (l1 + 1)))) (by omega) (by omega) (by omega) (fun u_ => absurd u_ (by omega)) (((u2_i _ _ _ _ (by omega))).trans hc136_4) ((u2_s _ _ _ _)) (fun q i z => by rw [u2_ne _ _ _ _ (by omega)]; exact hc136_6 q i z) (((u2_i _ _ _ _ (by omega))).trans hc136_7) (((u2_i _ _ _ _ (by omega))).trans hc136_8) (fun _ => ⟨by omega, (rn_step (by omega) hpk).symm.trans hrk⟩) (fun u_ => absurd (by assumption) (bz0.mp u_)) (by omega)
              · skip
                have q22 : (tY B p1) = (1) := by have z := (nI_eq (a := (tY B p1)) (b := (1)) (by omega) (by omega)).mp q22; omega
                refine X_iload C (D (180, .iload 4, 2) (mg 95 rfl)) rfl ?_
                refine X_cS (As := [.int (hp136 (m + 9) (p1 + l1))]) (st := []) C (post := _) (ct_X8_isSmall hw (hp136 (m + 9) (p1 + l1)) hp136 g) kX8_262 (by decide) (by decide) rfl rfl (Nat.le_of_ble_eq_true rfl) (D (182, .invokestatic 262, 3) (mg 96 rfl)) rfl (fun v29 H27 G28 hv29 => ?_)
                obtain ⟨rfl, rfl, rfl⟩ := hv29
                show X k w _ 185 [some (.ref (wA w (m))), some (.int (nI (f0))), some (.int (cc)), some (.int (b3)), some (.int (hp136 (m + 9) (p1 + l1)))] [.int (if 97 ≤ (hp136 (m + 9) (p1 + l1)).toInt ∧ (hp136 (m + 9) (p1 + l1)).toInt ≤ 122 then 1 else 0)] hp136 g
                refine X_goto (tgt := 193) C (D (185, .goto 8, 3) (mg 97 rfl)) (by decide) ?_
                refine X_istore_n (ls' := [some (.ref (wA w (m))), some (.int (nI (f0))), some (.int (cc)), some (.int (if 97 ≤ (hp136 (m + 9) (p1 + l1)).toInt ∧ (hp136 (m + 9) (p1 + l1)).toInt ≤ 122 then 1 else 0)), some (.int (hp136 (m + 9) (p1 + l1)))]) C 3 (D (193, .istore_n 3, 1) (mg 100 rfl)) rfl (Nat.le_of_ble_eq_true rfl) rfl ?_
                refine X_aload_n C 0 (D (194, .aload_n 0, 1) (mg 101 rfl)) rfl rfl ?_
                refine X_dup C (D (195, .dup, 1) (mg 102 rfl)) rfl ?_
                refine X_get (v := .int (hp136 (m) 13)) C (m) 13 (by omega) hsm rfl rfl (by decide) inX8 fX8_253 rfl (D (196, .getfield 253, 3) (mg 103 rfl)) rfl ?_
                refine X_ti (y := nI (l1)) (hc136_5) ?_
                refine X_iload_n C 3 (D (199, .iload_n 3, 1) (mg 104 rfl)) rfl rfl ?_
                refine X_if_eq (tgt := 207) C (D (200, .ifCond .eq 7, 3) (mg 105 rfl)) (by decide) (fun q30 => ?_) (fun q30 => ?_)
                · skip
                  have q30 : ¬ (97 ≤ (hp136 (m + 9) (p1 + l1)).toInt ∧ (hp136 (m + 9) (p1 + l1)).toInt ≤ 122) := bz0.mp q30
                  have hpk : pk B p1 (B (p1 + l1)) = false := by rw [pk1 (by omega)]; exact isLe_f (by rw [← hB (p1 + l1) (by omega), ← hc136_6 (m + 9) (p1 + l1) (by omega)]; exact q30)
                  refine X_iconst (v := nI (0)) C (D (207, .iconst 0, 1) (mg 108 rfl)) (by decide) ?_
                  refine X_iadd C (D (208, .iadd, 1) (mg 109 rfl)) ?_
                  refine X_ti (y := nI (l1 + 0)) (nI_add (l1) (0)) ?_
                  refine X_putI C (m) 13 tyX8 tyX8_ok nmX8 (by omega) hsm rfl rfl (by decide) inX8 fX8_253 rfl rfl (by decide +kernel) (D (209, .putfield 253, 3) (mg 110 rfl)) ?_
                  refine X_goto (tgt := 136) C (D (212, .goto (-76), 3) (mg 111 rfl)) (by decide) ?_
                  refine X_los (ls' := [some (.ref (wA w (m))), some (.int (nI (f0))), some (.int (cc)), some (.int (if 97 ≤ (hp136 (m + 9) (p1 + l1)).toInt ∧ (hp136 (m + 9) (p1 + l1)).toInt ≤ 122 then 1 else 0)), none]) (by simp [lsub]) ?_
                  refine X_eq (ls' := [some (.ref (wA w (m))), some (.int (nI (f0))), some (.int (cc)), some (.int (if 97 ≤ (hp136 (m + 9) (p1 + l1)).toInt ∧ (hp136 (m + 9) (p1 + l1)).toInt ≤ 122 then 1 else 0)), none]) (st' := []) (h' := (u2 hp136 (m) 13 (nI (l1 + 0)))) (g' := g) rfl rfl rfl rfl ?_
                  exact ih136 (l1 + 0) (0) (if 97 ≤ (hp136 (m + 9) (p1 + l1)).toInt ∧ (hp136 (m + 9) (p1 + l1)).toInt ≤ 122 then 1 else 0) ((u2 hp136 (m) 13 (nI (l1 + 0)))) (by omega) (by omega) (by omega) (fun _ => if_neg (by assumption)) (((u2_i _ _ _ _ (by omega))).trans hc136_4) ((u2_s _ _ _ _)) (fun q i z => by rw [u2_ne _ _ _ _ (by omega)]; exact hc136_6 q i z) (((u2_i _ _ _ _ (by omega))).trans hc136_7) (((u2_i _ _ _ _ (by omega))).trans hc136_8) (fun u_ => absurd (if_neg (by assumption)) u_) (fun _ => (rn_stop (Or.inr hpk)).symm.trans hrk) (by omega)
                · skip
                  have q30 : (97 ≤ (hp136 (m + 9) (p1 + l1)).toInt ∧ (hp136 (m + 9) (p1 + l1)).toInt ≤ 122) := bz1.mp q30
                  have hpk : pk B p1 (B (p1 + l1)) = true := by rw [pk1 (by omega)]; exact isLe_t (by rw [← hB (p1 + l1) (by omega), ← hc136_6 (m + 9) (p1 + l1) (by omega)]; exact q30)
                  refine X_iconst (v := nI (1)) C (D (203, .iconst 1, 1) (mg 106 rfl)) (by decide) ?_
                  refine X_goto (tgt := 208) C (D (204, .goto 4, 3) (mg 107 rfl)) (by decide) ?_
                  refine X_iadd C (D (208, .iadd, 1) (mg 109 rfl)) ?_
                  refine X_ti (y := nI (l1 + 1)) (nI_add (l1) (1)) ?_
                  refine X_putI C (m) 13 tyX8 tyX8_ok nmX8 (by omega) hsm rfl rfl (by decide) inX8 fX8_253 rfl rfl (by decide +kernel) (D (209, .putfield 253, 3) (mg 110 rfl)) ?_
                  refine X_goto (tgt := 136) C (D (212, .goto (-76), 3) (mg 111 rfl)) (by decide) ?_
                  refine X_los (ls' := [some (.ref (wA w (m))), some (.int (nI (f0))), some (.int (cc)), some (.int (if 97 ≤ (hp136 (m + 9) (p1 + l1)).toInt ∧ (hp136 (m + 9) (p1 + l1)).toInt ≤ 122 then 1 else 0)), none]) (by simp [lsub]) ?_
                  refine X_eq (ls' := [some (.ref (wA w (m))), some (.int (nI (f0))), some (.int (cc)), some (.int (if 97 ≤ (hp136 (m + 9) (p1 + l1)).toInt ∧ (hp136 (m + 9) (p1 + l1)).toInt ≤ 122 then 1 else 0)), none]) (st' := []) (h' := (u2 hp136 (m) 13 (nI (l1 + 1)))) (g' := g) rfl rfl rfl rfl ?_
                  exact ih136 (l1 + 1) (1) (if 97 ≤ (hp136 (m + 9) (p1 + l1)).toInt ∧ (hp136 (m + 9) (p1 + l1)).toInt ≤ 122 then 1 else 0) ((u2 hp136 (m) 13 (nI (l1 + 1)))) (by omega) (by omega) (by omega) (fun u_ => absurd u_ (by omega)) (((u2_i _ _ _ _ (by omega))).trans hc136_4) ((u2_s _ _ _ _)) (fun q i z => by rw [u2_ne _ _ _ _ (by omega)]; exact hc136_6 q i z) (((u2_i _ _ _ _ (by omega))).trans hc136_7) (((u2_i _ _ _ _ (by omega))).trans hc136_8) (fun _ => ⟨by omega, (rn_step (by omega) hpk).symm.trans hrk⟩) (fun u_ => absurd (by assumption) (bz0.mp u_)) (by omega)
      refine X_eq (ls' := [some (.ref (wA w (m))), some (.int (nI (f0))), some (.int (cc)), some (.int (nI (0))), none]) (st' := []) (h' := (u2 (u2 hh (m) 14 (nI (tY B p1))) (m) 13 (nI (1)))) (g' := g) rfl rfl rfl rfl ?_
      exact lp136 _ (1) (1) (nI (0)) ((u2 (u2 hh (m) 14 (nI (tY B p1))) (m) 13 (nI (1)))) (by omega) (by omega) (by omega) (fun u_ => absurd u_ (by omega)) ((((u2_i _ _ _ _ (by omega))).trans (u2_i _ _ _ _ (by omega))).trans hc114_2) ((u2_s _ _ _ _)) (fun q i z => by rw [u2_ne _ _ _ _ (by omega), u2_ne _ _ _ _ (by omega)]; exact hc114_3 q i z) (((u2_i _ _ _ _ (by omega))).trans (u2_s _ _ _ _)) ((((u2_i _ _ _ _ (by omega))).trans (u2_i _ _ _ _ (by omega))).trans hc114_5) (fun u_ => absurd rfl u_) (fun _ => lk_b (by omega)) (Nat.le_refl _)
    · skip
      have q1 : (tY B p1) < (3) := by have z : ¬ ((3) ≤ (tY B p1)) := fun u => q1 ((nI_leI (a := (3)) (b := (tY B p1)) (by omega) (by omega)).mpr u); omega
      refine X_iconst (v := nI (1)) C (D (130, .iconst 1, 1) (mg 68 rfl)) (by decide) ?_
      refine X_goto (tgt := 135) C (D (131, .goto 4, 3) (mg 69 rfl)) (by decide) ?_
      refine X_istore_n (ls' := [some (.ref (wA w (m))), some (.int (nI (f0))), some (.int (cc)), some (.int (nI (1))), none]) C 3 (D (135, .istore_n 3, 1) (mg 71 rfl)) rfl (Nat.le_of_ble_eq_true rfl) rfl ?_
      have lp136 : ∀ (nn136 : Nat) (l1 : Nat) (e3 : Nat) (b3 : Int32) (hp136 : xI), (1 ≤ l1) → (p1 + l1 ≤ n) → (e3 ≤ 1) → (e3 = 0 → b3 = 0) → (hp136 m 12 = nI p1) → (hp136 m 13 = nI l1) → (∀ q i, (q ≠ m ∨ i < 12 ∨ 15 < i) → hp136 q i = h q i) → (hp136 m 14 = nI (tY B p1)) → (hp136 m 15 = nI 0) → (¬ b3 = 0 → tY B p1 < 3 ∧ rn (pk B p1) B n (p1 + l1) = eK B n p1) → (b3 = 0 → p1 + l1 = eK B n p1) → 2 * (n - (p1 + l1)) + e3 + 1 ≤ nn136 → X k w (Zq k w (pQv (fun h' => fL m h h' ∧ kM B n f0 m h'))) 136 [some (.ref (wA w (m))), some (.int (nI (f0))), some (.int (cc)), some (.int (b3)), none] [] hp136 g := by
        intro nn136
        induction nn136 with
        | zero => intro l1 e3 b3 hp136 hc136_0 hc136_1 hc136_2 hc136_3 hc136_4 hc136_5 hc136_6 hc136_7 hc136_8 hc136_9 hc136_10 hz; exact absurd hz (by omega)
        | succ nn136 ih136 =>
          intro l1 e3 b3 hp136 hc136_0 hc136_1 hc136_2 hc136_3 hc136_4 hc136_5 hc136_6 hc136_7 hc136_8 hc136_9 hc136_10 hz136
          refine X_iload_n C 3 (D (136, .iload_n 3, 1) (mg 72 rfl)) rfl rfl ?_
          refine X_if_eq (tgt := 215) C (D (137, .ifCond .eq 78, 3) (mg 73 rfl)) (by decide) (fun q31 => ?_) (fun q31 => ?_)
          · skip
            have hend := hc136_10 q31
            refine X_iconst (v := nI (0)) C (D (215, .iconst 0, 1) (mg 112 rfl)) (by decide) ?_
            refine X_istore (ls' := [some (.ref (wA w (m))), some (.int (nI (f0))), some (.int (cc)), some (.int (b3)), some (.int (nI (0)))]) C (D (216, .istore 4, 2) (mg 113 rfl)) (Nat.le_of_ble_eq_true rfl) rfl ?_
            have lp218 : ∀ (nn218 : Nat) (k4 : Nat) (hp218 : xI), (k4 ≤ 2) → (k4 ≤ l1) → (hp218 m 12 = nI p1) → (hp218 m 13 = nI l1) → (∀ q i, (q ≠ m ∨ i < 12 ∨ 15 < i) → hp218 q i = h q i) → (hp218 m 14 = nI (tY B p1)) → (tY B p1 = 2 → hp218 m 15 = vN B p1 (p1 + k4)) → 3 - k4 ≤ nn218 → X k w (Zq k w (pQv (fun h' => fL m h h' ∧ kM B n f0 m h'))) 218 [some (.ref (wA w (m))), some (.int (nI (f0))), some (.int (cc)), some (.int (b3)), some (.int (nI (k4)))] [] hp218 g := by
              intro nn218
              induction nn218 with
              | zero => intro k4 hp218 hc218_0 hc218_1 hc218_2 hc218_3 hc218_4 hc218_5 hc218_6 hz; exact absurd hz (by omega)
              | succ nn218 ih218 =>
                intro k4 hp218 hc218_0 hc218_1 hc218_2 hc218_3 hc218_4 hc218_5 hc218_6 hz218
                refine X_iload C (D (218, .iload 4, 2) (mg 114 rfl)) rfl ?_
                refine X_aload_n C 0 (D (220, .aload_n 0, 1) (mg 115 rfl)) rfl rfl ?_
                refine X_get (v := .int (hp218 (m) 13)) C (m) 13 (by omega) hsm rfl rfl (by decide) inX8 fX8_253 rfl (D (221, .getfield 253, 3) (mg 116 rfl)) rfl ?_
                refine X_ti (y := nI (l1)) (hc218_3) ?_
                refine X_icmp_ge (tgt := 274) C (D (224, .if_icmp .ge 50, 3) (mg 117 rfl)) (by decide) (fun q32 => ?_) (fun q32 => ?_)
                · skip
                  have q32 : (k4) ≥ (l1) := by have z := (nI_leI (a := (l1)) (b := (k4)) (by omega) (by omega)).mp q32; omega
                  refine X_aload_n C 0 (D (274, .aload_n 0, 1) (mg 143 rfl)) rfl rfl ?_
                  refine X_aload_n C 0 (D (275, .aload_n 0, 1) (mg 144 rfl)) rfl rfl ?_
                  refine X_get (v := .int (hp218 (m) 14)) C (m) 14 (by omega) hsm rfl rfl (by decide) inX8 fX8_256 rfl (D (276, .getfield 256, 3) (mg 145 rfl)) rfl ?_
                  refine X_ti (y := nI (tY B p1)) (hc218_5) ?_
                  refine X_iconst (v := nI (2)) C (D (279, .iconst 2, 1) (mg 146 rfl)) (by decide) ?_
                  refine X_icmp_ne (tgt := 295) C (D (280, .if_icmp .ne 15, 3) (mg 147 rfl)) (by decide) (fun q33 => ?_) (fun q33 => ?_)
                  · skip
                    have q33 : (tY B p1) ≠ (2) := by have z : ¬ ((tY B p1) = (2)) := fun u => q33 ((nI_eq (a := (tY B p1)) (b := (2)) (by omega) (by omega)).mpr u); omega
                    refine X_aload_n C 0 (D (295, .aload_n 0, 1) (mg 154 rfl)) rfl rfl ?_
                    refine X_get (v := .int (hp218 (m) 14)) C (m) 14 (by omega) hsm rfl rfl (by decide) inX8 fX8_256 rfl (D (296, .getfield 256, 3) (mg 155 rfl)) rfl ?_
                    refine X_ti (y := nI (tY B p1)) (hc218_5) ?_
                    refine X_putI C (m) 14 tyX8 tyX8_ok nmX8 (by omega) hsm rfl rfl (by decide) inX8 fX8_256 rfl rfl (by decide +kernel) (D (299, .putfield 256, 3) (mg 156 rfl)) ?_
                    exact X_vret C (D (302, .return_, 1) (mg 157 rfl)) (have ht_ := lk_t hc114_4 (by omega); ⟨rfl, (fun q i z => by rw [u2_ne _ _ _ _ (by omega)]; exact hc218_4 q i z), by rw [hc114_4]; exact (((u2_i _ _ _ _ (by omega))).trans hc218_2), by rw [ht_.1, hc114_4, show eK B n p1 - p1 = l1 by omega]; exact (((u2_i _ _ _ _ (by omega))).trans hc218_3), by rw [ht_.2.1]; first | (rw [if_neg (by omega)]; exact ((u2_s _ _ _ _))) | (rw [if_pos (by omega), if_pos (by omega)]; exact (((u2_s _ _ _ _))).trans (by rw [show tY B p1 = 2 by omega])), fun u_ => by obtain ⟨h2_, h3_⟩ := lk_w hc114_4 (by omega) u_; rw [ht_.2.2 h2_, ← show p1 + k4 = eK B n p1 by omega]; exact (u2_i _ _ _ _ (by omega)).trans (hc218_6 h2_)⟩)
                  · skip
                    have q33 : (tY B p1) = (2) := by have z := (nI_eq (a := (tY B p1)) (b := (2)) (by omega) (by omega)).mp q33; omega
                    refine X_aload_n C 0 (D (283, .aload_n 0, 1) (mg 148 rfl)) rfl rfl ?_
                    refine X_get (v := .int (hp218 (m) 13)) C (m) 13 (by omega) hsm rfl rfl (by decide) inX8 fX8_253 rfl (D (284, .getfield 253, 3) (mg 149 rfl)) rfl ?_
                    refine X_ti (y := nI (l1)) (hc218_3) ?_
                    refine X_iconst (v := nI (2)) C (D (287, .iconst 2, 1) (mg 150 rfl)) (by decide) ?_
                    refine X_icmp_le (tgt := 295) C (D (288, .if_icmp .le 7, 3) (mg 151 rfl)) (by decide) (fun q34 => ?_) (fun q34 => ?_)
                    · skip
                      have q34 : (l1) ≤ (2) := by have z := (nI_leI (a := (l1)) (b := (2)) (by omega) (by omega)).mp q34; omega
                      refine X_aload_n C 0 (D (295, .aload_n 0, 1) (mg 154 rfl)) rfl rfl ?_
                      refine X_get (v := .int (hp218 (m) 14)) C (m) 14 (by omega) hsm rfl rfl (by decide) inX8 fX8_256 rfl (D (296, .getfield 256, 3) (mg 155 rfl)) rfl ?_
                      refine X_ti (y := nI (tY B p1)) (hc218_5) ?_
                      refine X_putI C (m) 14 tyX8 tyX8_ok nmX8 (by omega) hsm rfl rfl (by decide) inX8 fX8_256 rfl rfl (by decide +kernel) (D (299, .putfield 256, 3) (mg 156 rfl)) ?_
                      exact X_vret C (D (302, .return_, 1) (mg 157 rfl)) (have ht_ := lk_t hc114_4 (by omega); ⟨rfl, (fun q i z => by rw [u2_ne _ _ _ _ (by omega)]; exact hc218_4 q i z), by rw [hc114_4]; exact (((u2_i _ _ _ _ (by omega))).trans hc218_2), by rw [ht_.1, hc114_4, show eK B n p1 - p1 = l1 by omega]; exact (((u2_i _ _ _ _ (by omega))).trans hc218_3), by rw [ht_.2.1]; first | (rw [if_neg (by omega)]; exact ((u2_s _ _ _ _))) | (rw [if_pos (by omega), if_pos (by omega)]; exact (((u2_s _ _ _ _))).trans (by rw [show tY B p1 = 2 by omega])), fun u_ => by obtain ⟨h2_, h3_⟩ := lk_w hc114_4 (by omega) u_; rw [ht_.2.2 h2_, ← show p1 + k4 = eK B n p1 by omega]; exact (u2_i _ _ _ _ (by omega)).trans (hc218_6 h2_)⟩)
                    · skip
                      have q34 : (l1) > (2) := by have z : ¬ ((l1) ≤ (2)) := fun u => q34 ((nI_leI (a := (l1)) (b := (2)) (by omega) (by omega)).mpr u); omega
                      refine X_iconst (v := nI (4)) C (D (291, .iconst 4, 1) (mg 152 rfl)) (by decide) ?_
                      refine X_goto (tgt := 299) C (D (292, .goto 7, 3) (mg 153 rfl)) (by decide) ?_
                      refine X_putI C (m) 14 tyX8 tyX8_ok nmX8 (by omega) hsm rfl rfl (by decide) inX8 fX8_256 rfl rfl (by decide +kernel) (D (299, .putfield 256, 3) (mg 156 rfl)) ?_
                      exact X_vret C (D (302, .return_, 1) (mg 157 rfl)) (have ht_ := lk_t hc114_4 (by omega); ⟨rfl, (fun q i z => by rw [u2_ne _ _ _ _ (by omega)]; exact hc218_4 q i z), by rw [hc114_4]; exact (((u2_i _ _ _ _ (by omega))).trans hc218_2), by rw [ht_.1, hc114_4, show eK B n p1 - p1 = l1 by omega]; exact (((u2_i _ _ _ _ (by omega))).trans hc218_3), by rw [ht_.2.1, if_pos (by omega), if_neg (by omega)]; exact ((u2_s _ _ _ _)), fun u_ => by obtain ⟨h2_, h3_⟩ := lk_w hc114_4 (by omega) u_; rw [ht_.2.2 h2_, ← show p1 + k4 = eK B n p1 by omega]; exact (u2_i _ _ _ _ (by omega)).trans (hc218_6 h2_)⟩)
                · skip
                  have q32 : (k4) < (l1) := by have z : ¬ ((l1) ≤ (k4)) := fun u => q32 ((nI_leI (a := (l1)) (b := (k4)) (by omega) (by omega)).mpr u); omega
                  refine X_iload C (D (227, .iload 4, 2) (mg 118 rfl)) rfl ?_
                  refine X_iconst (v := nI (2)) C (D (229, .iconst 2, 1) (mg 119 rfl)) (by decide) ?_
                  refine X_icmp_ge (tgt := 274) C (D (230, .if_icmp .ge 44, 3) (mg 120 rfl)) (by decide) (fun q35 => ?_) (fun q35 => ?_)
                  · skip
                    have q35 : (k4) ≥ (2) := by have z := (nI_leI (a := (2)) (b := (k4)) (by omega) (by omega)).mp q35; omega
                    refine X_aload_n C 0 (D (274, .aload_n 0, 1) (mg 143 rfl)) rfl rfl ?_
                    refine X_aload_n C 0 (D (275, .aload_n 0, 1) (mg 144 rfl)) rfl rfl ?_
                    refine X_get (v := .int (hp218 (m) 14)) C (m) 14 (by omega) hsm rfl rfl (by decide) inX8 fX8_256 rfl (D (276, .getfield 256, 3) (mg 145 rfl)) rfl ?_
                    refine X_ti (y := nI (tY B p1)) (hc218_5) ?_
                    refine X_iconst (v := nI (2)) C (D (279, .iconst 2, 1) (mg 146 rfl)) (by decide) ?_
                    refine X_icmp_ne (tgt := 295) C (D (280, .if_icmp .ne 15, 3) (mg 147 rfl)) (by decide) (fun q36 => ?_) (fun q36 => ?_)
                    · skip
                      have q36 : (tY B p1) ≠ (2) := by have z : ¬ ((tY B p1) = (2)) := fun u => q36 ((nI_eq (a := (tY B p1)) (b := (2)) (by omega) (by omega)).mpr u); omega
                      refine X_aload_n C 0 (D (295, .aload_n 0, 1) (mg 154 rfl)) rfl rfl ?_
                      refine X_get (v := .int (hp218 (m) 14)) C (m) 14 (by omega) hsm rfl rfl (by decide) inX8 fX8_256 rfl (D (296, .getfield 256, 3) (mg 155 rfl)) rfl ?_
                      refine X_ti (y := nI (tY B p1)) (hc218_5) ?_
                      refine X_putI C (m) 14 tyX8 tyX8_ok nmX8 (by omega) hsm rfl rfl (by decide) inX8 fX8_256 rfl rfl (by decide +kernel) (D (299, .putfield 256, 3) (mg 156 rfl)) ?_
                      exact X_vret C (D (302, .return_, 1) (mg 157 rfl)) (have ht_ := lk_t hc114_4 (by omega); ⟨rfl, (fun q i z => by rw [u2_ne _ _ _ _ (by omega)]; exact hc218_4 q i z), by rw [hc114_4]; exact (((u2_i _ _ _ _ (by omega))).trans hc218_2), by rw [ht_.1, hc114_4, show eK B n p1 - p1 = l1 by omega]; exact (((u2_i _ _ _ _ (by omega))).trans hc218_3), by rw [ht_.2.1]; first | (rw [if_neg (by omega)]; exact ((u2_s _ _ _ _))) | (rw [if_pos (by omega), if_pos (by omega)]; exact (((u2_s _ _ _ _))).trans (by rw [show tY B p1 = 2 by omega])), fun u_ => by obtain ⟨h2_, h3_⟩ := lk_w hc114_4 (by omega) u_; rw [ht_.2.2 h2_, ← show p1 + k4 = eK B n p1 by omega]; exact (u2_i _ _ _ _ (by omega)).trans (hc218_6 h2_)⟩)
                    · skip
                      have q36 : (tY B p1) = (2) := by have z := (nI_eq (a := (tY B p1)) (b := (2)) (by omega) (by omega)).mp q36; omega
                      refine X_aload_n C 0 (D (283, .aload_n 0, 1) (mg 148 rfl)) rfl rfl ?_
                      refine X_get (v := .int (hp218 (m) 13)) C (m) 13 (by omega) hsm rfl rfl (by decide) inX8 fX8_253 rfl (D (284, .getfield 253, 3) (mg 149 rfl)) rfl ?_
                      refine X_ti (y := nI (l1)) (hc218_3) ?_
                      refine X_iconst (v := nI (2)) C (D (287, .iconst 2, 1) (mg 150 rfl)) (by decide) ?_
                      refine X_icmp_le (tgt := 295) C (D (288, .if_icmp .le 7, 3) (mg 151 rfl)) (by decide) (fun q37 => ?_) (fun q37 => ?_)
                      · skip
                        have q37 : (l1) ≤ (2) := by have z := (nI_leI (a := (l1)) (b := (2)) (by omega) (by omega)).mp q37; omega
                        refine X_aload_n C 0 (D (295, .aload_n 0, 1) (mg 154 rfl)) rfl rfl ?_
                        refine X_get (v := .int (hp218 (m) 14)) C (m) 14 (by omega) hsm rfl rfl (by decide) inX8 fX8_256 rfl (D (296, .getfield 256, 3) (mg 155 rfl)) rfl ?_
                        refine X_ti (y := nI (tY B p1)) (hc218_5) ?_
                        refine X_putI C (m) 14 tyX8 tyX8_ok nmX8 (by omega) hsm rfl rfl (by decide) inX8 fX8_256 rfl rfl (by decide +kernel) (D (299, .putfield 256, 3) (mg 156 rfl)) ?_
                        exact X_vret C (D (302, .return_, 1) (mg 157 rfl)) (have ht_ := lk_t hc114_4 (by omega); ⟨rfl, (fun q i z => by rw [u2_ne _ _ _ _ (by omega)]; exact hc218_4 q i z), by rw [hc114_4]; exact (((u2_i _ _ _ _ (by omega))).trans hc218_2), by rw [ht_.1, hc114_4, show eK B n p1 - p1 = l1 by omega]; exact (((u2_i _ _ _ _ (by omega))).trans hc218_3), by rw [ht_.2.1]; first | (rw [if_neg (by omega)]; exact ((u2_s _ _ _ _))) | (rw [if_pos (by omega), if_pos (by omega)]; exact (((u2_s _ _ _ _))).trans (by rw [show tY B p1 = 2 by omega])), fun u_ => by obtain ⟨h2_, h3_⟩ := lk_w hc114_4 (by omega) u_; rw [ht_.2.2 h2_, ← show p1 + k4 = eK B n p1 by omega]; exact (u2_i _ _ _ _ (by omega)).trans (hc218_6 h2_)⟩)
                      · skip
                        have q37 : (l1) > (2) := by have z : ¬ ((l1) ≤ (2)) := fun u => q37 ((nI_leI (a := (l1)) (b := (2)) (by omega) (by omega)).mpr u); omega
                        refine X_iconst (v := nI (4)) C (D (291, .iconst 4, 1) (mg 152 rfl)) (by decide) ?_
                        refine X_goto (tgt := 299) C (D (292, .goto 7, 3) (mg 153 rfl)) (by decide) ?_
                        refine X_putI C (m) 14 tyX8 tyX8_ok nmX8 (by omega) hsm rfl rfl (by decide) inX8 fX8_256 rfl rfl (by decide +kernel) (D (299, .putfield 256, 3) (mg 156 rfl)) ?_
                        exact X_vret C (D (302, .return_, 1) (mg 157 rfl)) (have ht_ := lk_t hc114_4 (by omega); ⟨rfl, (fun q i z => by rw [u2_ne _ _ _ _ (by omega)]; exact hc218_4 q i z), by rw [hc114_4]; exact (((u2_i _ _ _ _ (by omega))).trans hc218_2), by rw [ht_.1, hc114_4, show eK B n p1 - p1 = l1 by omega]; exact (((u2_i _ _ _ _ (by omega))).trans hc218_3), by rw [ht_.2.1, if_pos (by omega), if_neg (by omega)]; exact ((u2_s _ _ _ _)), fun u_ => by obtain ⟨h2_, h3_⟩ := lk_w hc114_4 (by omega) u_; rw [ht_.2.2 h2_, ← show p1 + k4 = eK B n p1 by omega]; exact (u2_i _ _ _ _ (by omega)).trans (hc218_6 h2_)⟩)
                  · skip
                    have q35 : (k4) < (2) := by have z : ¬ ((2) ≤ (k4)) := fun u => q35 ((nI_leI (a := (2)) (b := (k4)) (by omega) (by omega)).mpr u); omega
                    refine X_aload_n C 0 (D (233, .aload_n 0, 1) (mg 121 rfl)) rfl rfl ?_
                    refine X_get (v := .int (hp218 (m) 14)) C (m) 14 (by omega) hsm rfl rfl (by decide) inX8 fX8_256 rfl (D (234, .getfield 256, 3) (mg 122 rfl)) rfl ?_
                    refine X_ti (y := nI (tY B p1)) (hc218_5) ?_
                    refine X_iconst (v := nI (2)) C (D (237, .iconst 2, 1) (mg 123 rfl)) (by decide) ?_
                    refine X_icmp_ne (tgt := 274) C (D (238, .if_icmp .ne 36, 3) (mg 124 rfl)) (by decide) (fun q38 => ?_) (fun q38 => ?_)
                    · skip
                      have q38 : (tY B p1) ≠ (2) := by have z : ¬ ((tY B p1) = (2)) := fun u => q38 ((nI_eq (a := (tY B p1)) (b := (2)) (by omega) (by omega)).mpr u); omega
                      refine X_aload_n C 0 (D (274, .aload_n 0, 1) (mg 143 rfl)) rfl rfl ?_
                      refine X_aload_n C 0 (D (275, .aload_n 0, 1) (mg 144 rfl)) rfl rfl ?_
                      refine X_get (v := .int (hp218 (m) 14)) C (m) 14 (by omega) hsm rfl rfl (by decide) inX8 fX8_256 rfl (D (276, .getfield 256, 3) (mg 145 rfl)) rfl ?_
                      refine X_ti (y := nI (tY B p1)) (hc218_5) ?_
                      refine X_iconst (v := nI (2)) C (D (279, .iconst 2, 1) (mg 146 rfl)) (by decide) ?_
                      refine X_icmp_ne (tgt := 295) C (D (280, .if_icmp .ne 15, 3) (mg 147 rfl)) (by decide) (fun q39 => ?_) (fun q39 => ?_)
                      · skip
                        have q39 : (tY B p1) ≠ (2) := by have z : ¬ ((tY B p1) = (2)) := fun u => q39 ((nI_eq (a := (tY B p1)) (b := (2)) (by omega) (by omega)).mpr u); omega
                        refine X_aload_n C 0 (D (295, .aload_n 0, 1) (mg 154 rfl)) rfl rfl ?_
                        refine X_get (v := .int (hp218 (m) 14)) C (m) 14 (by omega) hsm rfl rfl (by decide) inX8 fX8_256 rfl (D (296, .getfield 256, 3) (mg 155 rfl)) rfl ?_
                        refine X_ti (y := nI (tY B p1)) (hc218_5) ?_
                        refine X_putI C (m) 14 tyX8 tyX8_ok nmX8 (by omega) hsm rfl rfl (by decide) inX8 fX8_256 rfl rfl (by decide +kernel) (D (299, .putfield 256, 3) (mg 156 rfl)) ?_
                        exact X_vret C (D (302, .return_, 1) (mg 157 rfl)) (have ht_ := lk_t hc114_4 (by omega); ⟨rfl, (fun q i z => by rw [u2_ne _ _ _ _ (by omega)]; exact hc218_4 q i z), by rw [hc114_4]; exact (((u2_i _ _ _ _ (by omega))).trans hc218_2), by rw [ht_.1, hc114_4, show eK B n p1 - p1 = l1 by omega]; exact (((u2_i _ _ _ _ (by omega))).trans hc218_3), by rw [ht_.2.1]; first | (rw [if_neg (by omega)]; exact ((u2_s _ _ _ _))) | (rw [if_pos (by omega), if_pos (by omega)]; exact (((u2_s _ _ _ _))).trans (by rw [show tY B p1 = 2 by omega])), fun u_ => by obtain ⟨h2_, h3_⟩ := lk_w hc114_4 (by omega) u_; rw [ht_.2.2 h2_, ← show p1 + k4 = eK B n p1 by omega]; exact (u2_i _ _ _ _ (by omega)).trans (hc218_6 h2_)⟩)
                      · skip
                        have q39 : (tY B p1) = (2) := by have z := (nI_eq (a := (tY B p1)) (b := (2)) (by omega) (by omega)).mp q39; omega
                        refine X_aload_n C 0 (D (283, .aload_n 0, 1) (mg 148 rfl)) rfl rfl ?_
                        refine X_get (v := .int (hp218 (m) 13)) C (m) 13 (by omega) hsm rfl rfl (by decide) inX8 fX8_253 rfl (D (284, .getfield 253, 3) (mg 149 rfl)) rfl ?_
                        refine X_ti (y := nI (l1)) (hc218_3) ?_
                        refine X_iconst (v := nI (2)) C (D (287, .iconst 2, 1) (mg 150 rfl)) (by decide) ?_
                        refine X_icmp_le (tgt := 295) C (D (288, .if_icmp .le 7, 3) (mg 151 rfl)) (by decide) (fun q40 => ?_) (fun q40 => ?_)
                        · skip
                          have q40 : (l1) ≤ (2) := by have z := (nI_leI (a := (l1)) (b := (2)) (by omega) (by omega)).mp q40; omega
                          refine X_aload_n C 0 (D (295, .aload_n 0, 1) (mg 154 rfl)) rfl rfl ?_
                          refine X_get (v := .int (hp218 (m) 14)) C (m) 14 (by omega) hsm rfl rfl (by decide) inX8 fX8_256 rfl (D (296, .getfield 256, 3) (mg 155 rfl)) rfl ?_
                          refine X_ti (y := nI (tY B p1)) (hc218_5) ?_
                          refine X_putI C (m) 14 tyX8 tyX8_ok nmX8 (by omega) hsm rfl rfl (by decide) inX8 fX8_256 rfl rfl (by decide +kernel) (D (299, .putfield 256, 3) (mg 156 rfl)) ?_
                          exact X_vret C (D (302, .return_, 1) (mg 157 rfl)) (have ht_ := lk_t hc114_4 (by omega); ⟨rfl, (fun q i z => by rw [u2_ne _ _ _ _ (by omega)]; exact hc218_4 q i z), by rw [hc114_4]; exact (((u2_i _ _ _ _ (by omega))).trans hc218_2), by rw [ht_.1, hc114_4, show eK B n p1 - p1 = l1 by omega]; exact (((u2_i _ _ _ _ (by omega))).trans hc218_3), by rw [ht_.2.1]; first | (rw [if_neg (by omega)]; exact ((u2_s _ _ _ _))) | (rw [if_pos (by omega), if_pos (by omega)]; exact (((u2_s _ _ _ _))).trans (by rw [show tY B p1 = 2 by omega])), fun u_ => by obtain ⟨h2_, h3_⟩ := lk_w hc114_4 (by omega) u_; rw [ht_.2.2 h2_, ← show p1 + k4 = eK B n p1 by omega]; exact (u2_i _ _ _ _ (by omega)).trans (hc218_6 h2_)⟩)
                        · skip
                          have q40 : (l1) > (2) := by have z : ¬ ((l1) ≤ (2)) := fun u => q40 ((nI_leI (a := (l1)) (b := (2)) (by omega) (by omega)).mpr u); omega
                          refine X_iconst (v := nI (4)) C (D (291, .iconst 4, 1) (mg 152 rfl)) (by decide) ?_
                          refine X_goto (tgt := 299) C (D (292, .goto 7, 3) (mg 153 rfl)) (by decide) ?_
                          refine X_putI C (m) 14 tyX8 tyX8_ok nmX8 (by omega) hsm rfl rfl (by decide) inX8 fX8_256 rfl rfl (by decide +kernel) (D (299, .putfield 256, 3) (mg 156 rfl)) ?_
                          exact X_vret C (D (302, .return_, 1) (mg 157 rfl)) (have ht_ := lk_t hc114_4 (by omega); ⟨rfl, (fun q i z => by rw [u2_ne _ _ _ _ (by omega)]; exact hc218_4 q i z), by rw [hc114_4]; exact (((u2_i _ _ _ _ (by omega))).trans hc218_2), by rw [ht_.1, hc114_4, show eK B n p1 - p1 = l1 by omega]; exact (((u2_i _ _ _ _ (by omega))).trans hc218_3), by rw [ht_.2.1, if_pos (by omega), if_neg (by omega)]; exact ((u2_s _ _ _ _)), fun u_ => by obtain ⟨h2_, h3_⟩ := lk_w hc114_4 (by omega) u_; rw [ht_.2.2 h2_, ← show p1 + k4 = eK B n p1 by omega]; exact (u2_i _ _ _ _ (by omega)).trans (hc218_6 h2_)⟩)
                    · skip
                      have q38 : (tY B p1) = (2) := by have z := (nI_eq (a := (tY B p1)) (b := (2)) (by omega) (by omega)).mp q38; omega
                      refine X_aload_n C 0 (D (241, .aload_n 0, 1) (mg 125 rfl)) rfl rfl ?_
                      refine X_bipush (v := nI (10)) C (D (242, .bipush 10, 2) (mg 126 rfl)) (by decide) ?_
                      refine X_aload_n C 0 (D (244, .aload_n 0, 1) (mg 127 rfl)) rfl rfl ?_
                      refine X_get (v := .int (hp218 (m) 15)) C (m) 15 (by omega) hsm rfl rfl (by decide) inX8 fX8_259 rfl (D (245, .getfield 259, 3) (mg 128 rfl)) rfl ?_
                      refine X_ti (y := vN B p1 (p1 + k4)) ((hc218_6 q38)) ?_
                      refine X_imul C (D (248, .imul, 1) (mg 129 rfl)) ?_
                      refine X_aload_n C 0 (D (249, .aload_n 0, 1) (mg 130 rfl)) rfl rfl ?_
                      refine X_get (v := .ref (wA w (m + 9))) C (m) 10 (by omega) hsm rfl rfl (by decide) inX8 fX8_39 rfl (D (250, .getfield 39, 3) (mg 131 rfl)) rfl ?_
                      refine X_aload_n C 0 (D (253, .aload_n 0, 1) (mg 132 rfl)) rfl rfl ?_
                      refine X_get (v := .int (hp218 (m) 12)) C (m) 12 (by omega) hsm rfl rfl (by decide) inX8 fX8_250 rfl (D (254, .getfield 250, 3) (mg 133 rfl)) rfl ?_
                      refine X_ti (y := nI (p1)) (hc218_2) ?_
                      refine X_iload C (D (257, .iload 4, 2) (mg 134 rfl)) rfl ?_
                      refine X_iadd C (D (259, .iadd, 1) (mg 135 rfl)) ?_
                      refine X_ti (y := nI (p1 + k4)) (nI_add (p1) (k4)) ?_
                      refine X_iald (v := hp218 (m + 9) (p1 + k4)) C (m + 9) (by omega) hs9 (vp_in_nI (by omega) (by omega)) (D (260, .iaload, 1) (mg 136 rfl)) (by rw [nI_clamp (by omega)]) ?_
                      refine X_iadd C (D (261, .iadd, 1) (mg 137 rfl)) ?_
                      refine X_bipush (v := nI (48)) C (D (262, .bipush 48, 2) (mg 138 rfl)) (by decide) ?_
                      refine X_isub C (D (264, .isub, 1) (mg 139 rfl)) ?_
                      refine X_putI C (m) 15 tyX8 tyX8_ok nmX8 (by omega) hsm rfl rfl (by decide) inX8 fX8_259 rfl rfl (by decide +kernel) (D (265, .putfield 259, 3) (mg 140 rfl)) ?_
                      refine X_iinc (v := nI (k4 + 1)) (ls' := [some (.ref (wA w (m))), some (.int (nI (f0))), some (.int (cc)), some (.int (b3)), some (.int (nI (k4 + 1)))]) C (D (268, .iinc 4 1, 3) (mg 141 rfl)) rfl (nI_add (k4) 1) rfl ?_
                      refine X_goto (tgt := 218) C (D (271, .goto (-53), 3) (mg 142 rfl)) (by decide) ?_
                      refine X_eq (ls' := [some (.ref (wA w (m))), some (.int (nI (f0))), some (.int (cc)), some (.int (b3)), some (.int (nI (k4 + 1)))]) (st' := []) (h' := (u2 hp218 (m) 15 ((((nI (10)) * (vN B p1 (p1 + k4))) + (hp218 (m + 9) (p1 + k4))) - (nI (48))))) (g' := g) rfl rfl rfl rfl ?_
                      exact ih218 (k4 + 1) ((u2 hp218 (m) 15 ((((nI (10)) * (vN B p1 (p1 + k4))) + (hp218 (m + 9) (p1 + k4))) - (nI (48))))) (by omega) (by omega) (((u2_i _ _ _ _ (by omega))).trans hc218_2) (((u2_i _ _ _ _ (by omega))).trans hc218_3) (fun q i z => by rw [u2_ne _ _ _ _ (by omega)]; exact hc218_4 q i z) (((u2_i _ _ _ _ (by omega))).trans hc218_5) (fun _ => (((u2_s _ _ _ _))).trans (vN_s (e := p1 + k4) (by omega) (by omega) ((hc218_4 _ _ (by omega)).trans (hB _ (by omega))))) (by omega)
            refine X_eq (ls' := [some (.ref (wA w (m))), some (.int (nI (f0))), some (.int (cc)), some (.int (b3)), some (.int (nI (0)))]) (st' := []) (h' := hp136) (g' := g) rfl rfl rfl rfl ?_
            exact lp218 _ (0) (hp136) (by omega) (by omega) (hc136_4) (hc136_5) (fun q i z => by skip; exact hc136_6 q i z) (hc136_7) (fun _ => by rw [Nat.add_zero, vN_0]; exact (hc136_8)) (Nat.le_refl _)
          · skip
            obtain ⟨hy3, hrk⟩ := hc136_9 q31
            have he3 : ¬ e3 = 0 := fun u_ => (by assumption : ¬ b3 = 0) (hc136_3 u_)
            refine X_aload_n C 0 (D (140, .aload_n 0, 1) (mg 74 rfl)) rfl rfl ?_
            refine X_get (v := .int (hp136 (m) 12)) C (m) 12 (by omega) hsm rfl rfl (by decide) inX8 fX8_250 rfl (D (141, .getfield 250, 3) (mg 75 rfl)) rfl ?_
            refine X_ti (y := nI (p1)) (hc136_4) ?_
            refine X_aload_n C 0 (D (144, .aload_n 0, 1) (mg 76 rfl)) rfl rfl ?_
            refine X_get (v := .int (hp136 (m) 13)) C (m) 13 (by omega) hsm rfl rfl (by decide) inX8 fX8_253 rfl (D (145, .getfield 253, 3) (mg 77 rfl)) rfl ?_
            refine X_ti (y := nI (l1)) (hc136_5) ?_
            refine X_iadd C (D (148, .iadd, 1) (mg 78 rfl)) ?_
            refine X_ti (y := nI (p1 + l1)) (nI_add (p1) (l1)) ?_
            refine X_aload_n C 0 (D (149, .aload_n 0, 1) (mg 79 rfl)) rfl rfl ?_
            refine X_get (v := .int (hp136 (m) 11)) C (m) 11 (by omega) hsm rfl rfl (by decide) inX8 fX8_238 rfl (D (150, .getfield 238, 3) (mg 80 rfl)) rfl ?_
            refine X_ti (y := nI (n)) (((hc136_6 _ _ (by omega)).trans hb)) ?_
            refine X_icmp_ge (tgt := 215) C (D (153, .if_icmp .ge 62, 3) (mg 81 rfl)) (by decide) (fun q41 => ?_) (fun q41 => ?_)
            · skip
              have q41 : (p1 + l1) ≥ (n) := by have z := (nI_leI (a := (n)) (b := (p1 + l1)) (by omega) (by omega)).mp q41; omega
              have hend : p1 + l1 = eK B n p1 := (rn_stop (Or.inl (by omega))).symm.trans hrk
              refine X_iconst (v := nI (0)) C (D (215, .iconst 0, 1) (mg 112 rfl)) (by decide) ?_
              refine X_istore (ls' := [some (.ref (wA w (m))), some (.int (nI (f0))), some (.int (cc)), some (.int (b3)), some (.int (nI (0)))]) C (D (216, .istore 4, 2) (mg 113 rfl)) (Nat.le_of_ble_eq_true rfl) rfl ?_
              have lp218 : ∀ (nn218 : Nat) (k4 : Nat) (hp218 : xI), (k4 ≤ 2) → (k4 ≤ l1) → (hp218 m 12 = nI p1) → (hp218 m 13 = nI l1) → (∀ q i, (q ≠ m ∨ i < 12 ∨ 15 < i) → hp218 q i = h q i) → (hp218 m 14 = nI (tY B p1)) → (tY B p1 = 2 → hp218 m 15 = vN B p1 (p1 + k4)) → 3 - k4 ≤ nn218 → X k w (Zq k w (pQv (fun h' => fL m h h' ∧ kM B n f0 m h'))) 218 [some (.ref (wA w (m))), some (.int (nI (f0))), some (.int (cc)), some (.int (b3)), some (.int (nI (k4)))] [] hp218 g := by
                intro nn218
                induction nn218 with
                | zero => intro k4 hp218 hc218_0 hc218_1 hc218_2 hc218_3 hc218_4 hc218_5 hc218_6 hz; exact absurd hz (by omega)
                | succ nn218 ih218 =>
                  intro k4 hp218 hc218_0 hc218_1 hc218_2 hc218_3 hc218_4 hc218_5 hc218_6 hz218
                  refine X_iload C (D (218, .iload 4, 2) (mg 114 rfl)) rfl ?_
                  refine X_aload_n C 0 (D (220, .aload_n 0, 1) (mg 115 rfl)) rfl rfl ?_
                  refine X_get (v := .int (hp218 (m) 13)) C (m) 13 (by omega) hsm rfl rfl (by decide) inX8 fX8_253 rfl (D (221, .getfield 253, 3) (mg 116 rfl)) rfl ?_
                  refine X_ti (y := nI (l1)) (hc218_3) ?_
                  refine X_icmp_ge (tgt := 274) C (D (224, .if_icmp .ge 50, 3) (mg 117 rfl)) (by decide) (fun q42 => ?_) (fun q42 => ?_)
                  · skip
                    have q42 : (k4) ≥ (l1) := by have z := (nI_leI (a := (l1)) (b := (k4)) (by omega) (by omega)).mp q42; omega
                    refine X_aload_n C 0 (D (274, .aload_n 0, 1) (mg 143 rfl)) rfl rfl ?_
                    refine X_aload_n C 0 (D (275, .aload_n 0, 1) (mg 144 rfl)) rfl rfl ?_
                    refine X_get (v := .int (hp218 (m) 14)) C (m) 14 (by omega) hsm rfl rfl (by decide) inX8 fX8_256 rfl (D (276, .getfield 256, 3) (mg 145 rfl)) rfl ?_
                    refine X_ti (y := nI (tY B p1)) (hc218_5) ?_
                    refine X_iconst (v := nI (2)) C (D (279, .iconst 2, 1) (mg 146 rfl)) (by decide) ?_
                    refine X_icmp_ne (tgt := 295) C (D (280, .if_icmp .ne 15, 3) (mg 147 rfl)) (by decide) (fun q43 => ?_) (fun q43 => ?_)
                    · skip
                      have q43 : (tY B p1) ≠ (2) := by have z : ¬ ((tY B p1) = (2)) := fun u => q43 ((nI_eq (a := (tY B p1)) (b := (2)) (by omega) (by omega)).mpr u); omega
                      refine X_aload_n C 0 (D (295, .aload_n 0, 1) (mg 154 rfl)) rfl rfl ?_
                      refine X_get (v := .int (hp218 (m) 14)) C (m) 14 (by omega) hsm rfl rfl (by decide) inX8 fX8_256 rfl (D (296, .getfield 256, 3) (mg 155 rfl)) rfl ?_
                      refine X_ti (y := nI (tY B p1)) (hc218_5) ?_
                      refine X_putI C (m) 14 tyX8 tyX8_ok nmX8 (by omega) hsm rfl rfl (by decide) inX8 fX8_256 rfl rfl (by decide +kernel) (D (299, .putfield 256, 3) (mg 156 rfl)) ?_
                      exact X_vret C (D (302, .return_, 1) (mg 157 rfl)) (have ht_ := lk_t hc114_4 (by omega); ⟨rfl, (fun q i z => by rw [u2_ne _ _ _ _ (by omega)]; exact hc218_4 q i z), by rw [hc114_4]; exact (((u2_i _ _ _ _ (by omega))).trans hc218_2), by rw [ht_.1, hc114_4, show eK B n p1 - p1 = l1 by omega]; exact (((u2_i _ _ _ _ (by omega))).trans hc218_3), by rw [ht_.2.1]; first | (rw [if_neg (by omega)]; exact ((u2_s _ _ _ _))) | (rw [if_pos (by omega), if_pos (by omega)]; exact (((u2_s _ _ _ _))).trans (by rw [show tY B p1 = 2 by omega])), fun u_ => by obtain ⟨h2_, h3_⟩ := lk_w hc114_4 (by omega) u_; rw [ht_.2.2 h2_, ← show p1 + k4 = eK B n p1 by omega]; exact (u2_i _ _ _ _ (by omega)).trans (hc218_6 h2_)⟩)
                    · skip
                      have q43 : (tY B p1) = (2) := by have z := (nI_eq (a := (tY B p1)) (b := (2)) (by omega) (by omega)).mp q43; omega
                      refine X_aload_n C 0 (D (283, .aload_n 0, 1) (mg 148 rfl)) rfl rfl ?_
                      refine X_get (v := .int (hp218 (m) 13)) C (m) 13 (by omega) hsm rfl rfl (by decide) inX8 fX8_253 rfl (D (284, .getfield 253, 3) (mg 149 rfl)) rfl ?_
                      refine X_ti (y := nI (l1)) (hc218_3) ?_
                      refine X_iconst (v := nI (2)) C (D (287, .iconst 2, 1) (mg 150 rfl)) (by decide) ?_
                      refine X_icmp_le (tgt := 295) C (D (288, .if_icmp .le 7, 3) (mg 151 rfl)) (by decide) (fun q44 => ?_) (fun q44 => ?_)
                      · skip
                        have q44 : (l1) ≤ (2) := by have z := (nI_leI (a := (l1)) (b := (2)) (by omega) (by omega)).mp q44; omega
                        refine X_aload_n C 0 (D (295, .aload_n 0, 1) (mg 154 rfl)) rfl rfl ?_
                        refine X_get (v := .int (hp218 (m) 14)) C (m) 14 (by omega) hsm rfl rfl (by decide) inX8 fX8_256 rfl (D (296, .getfield 256, 3) (mg 155 rfl)) rfl ?_
                        refine X_ti (y := nI (tY B p1)) (hc218_5) ?_
                        refine X_putI C (m) 14 tyX8 tyX8_ok nmX8 (by omega) hsm rfl rfl (by decide) inX8 fX8_256 rfl rfl (by decide +kernel) (D (299, .putfield 256, 3) (mg 156 rfl)) ?_
                        exact X_vret C (D (302, .return_, 1) (mg 157 rfl)) (have ht_ := lk_t hc114_4 (by omega); ⟨rfl, (fun q i z => by rw [u2_ne _ _ _ _ (by omega)]; exact hc218_4 q i z), by rw [hc114_4]; exact (((u2_i _ _ _ _ (by omega))).trans hc218_2), by rw [ht_.1, hc114_4, show eK B n p1 - p1 = l1 by omega]; exact (((u2_i _ _ _ _ (by omega))).trans hc218_3), by rw [ht_.2.1]; first | (rw [if_neg (by omega)]; exact ((u2_s _ _ _ _))) | (rw [if_pos (by omega), if_pos (by omega)]; exact (((u2_s _ _ _ _))).trans (by rw [show tY B p1 = 2 by omega])), fun u_ => by obtain ⟨h2_, h3_⟩ := lk_w hc114_4 (by omega) u_; rw [ht_.2.2 h2_, ← show p1 + k4 = eK B n p1 by omega]; exact (u2_i _ _ _ _ (by omega)).trans (hc218_6 h2_)⟩)
                      · skip
                        have q44 : (l1) > (2) := by have z : ¬ ((l1) ≤ (2)) := fun u => q44 ((nI_leI (a := (l1)) (b := (2)) (by omega) (by omega)).mpr u); omega
                        refine X_iconst (v := nI (4)) C (D (291, .iconst 4, 1) (mg 152 rfl)) (by decide) ?_
                        refine X_goto (tgt := 299) C (D (292, .goto 7, 3) (mg 153 rfl)) (by decide) ?_
                        refine X_putI C (m) 14 tyX8 tyX8_ok nmX8 (by omega) hsm rfl rfl (by decide) inX8 fX8_256 rfl rfl (by decide +kernel) (D (299, .putfield 256, 3) (mg 156 rfl)) ?_
                        exact X_vret C (D (302, .return_, 1) (mg 157 rfl)) (have ht_ := lk_t hc114_4 (by omega); ⟨rfl, (fun q i z => by rw [u2_ne _ _ _ _ (by omega)]; exact hc218_4 q i z), by rw [hc114_4]; exact (((u2_i _ _ _ _ (by omega))).trans hc218_2), by rw [ht_.1, hc114_4, show eK B n p1 - p1 = l1 by omega]; exact (((u2_i _ _ _ _ (by omega))).trans hc218_3), by rw [ht_.2.1, if_pos (by omega), if_neg (by omega)]; exact ((u2_s _ _ _ _)), fun u_ => by obtain ⟨h2_, h3_⟩ := lk_w hc114_4 (by omega) u_; rw [ht_.2.2 h2_, ← show p1 + k4 = eK B n p1 by omega]; exact (u2_i _ _ _ _ (by omega)).trans (hc218_6 h2_)⟩)
                  · skip
                    have q42 : (k4) < (l1) := by have z : ¬ ((l1) ≤ (k4)) := fun u => q42 ((nI_leI (a := (l1)) (b := (k4)) (by omega) (by omega)).mpr u); omega
                    refine X_iload C (D (227, .iload 4, 2) (mg 118 rfl)) rfl ?_
                    refine X_iconst (v := nI (2)) C (D (229, .iconst 2, 1) (mg 119 rfl)) (by decide) ?_
                    refine X_icmp_ge (tgt := 274) C (D (230, .if_icmp .ge 44, 3) (mg 120 rfl)) (by decide) (fun q45 => ?_) (fun q45 => ?_)
                    · skip
                      have q45 : (k4) ≥ (2) := by have z := (nI_leI (a := (2)) (b := (k4)) (by omega) (by omega)).mp q45; omega
                      refine X_aload_n C 0 (D (274, .aload_n 0, 1) (mg 143 rfl)) rfl rfl ?_
                      refine X_aload_n C 0 (D (275, .aload_n 0, 1) (mg 144 rfl)) rfl rfl ?_
                      refine X_get (v := .int (hp218 (m) 14)) C (m) 14 (by omega) hsm rfl rfl (by decide) inX8 fX8_256 rfl (D (276, .getfield 256, 3) (mg 145 rfl)) rfl ?_
                      refine X_ti (y := nI (tY B p1)) (hc218_5) ?_
                      refine X_iconst (v := nI (2)) C (D (279, .iconst 2, 1) (mg 146 rfl)) (by decide) ?_
                      refine X_icmp_ne (tgt := 295) C (D (280, .if_icmp .ne 15, 3) (mg 147 rfl)) (by decide) (fun q46 => ?_) (fun q46 => ?_)
                      · skip
                        have q46 : (tY B p1) ≠ (2) := by have z : ¬ ((tY B p1) = (2)) := fun u => q46 ((nI_eq (a := (tY B p1)) (b := (2)) (by omega) (by omega)).mpr u); omega
                        refine X_aload_n C 0 (D (295, .aload_n 0, 1) (mg 154 rfl)) rfl rfl ?_
                        refine X_get (v := .int (hp218 (m) 14)) C (m) 14 (by omega) hsm rfl rfl (by decide) inX8 fX8_256 rfl (D (296, .getfield 256, 3) (mg 155 rfl)) rfl ?_
                        refine X_ti (y := nI (tY B p1)) (hc218_5) ?_
                        refine X_putI C (m) 14 tyX8 tyX8_ok nmX8 (by omega) hsm rfl rfl (by decide) inX8 fX8_256 rfl rfl (by decide +kernel) (D (299, .putfield 256, 3) (mg 156 rfl)) ?_
                        exact X_vret C (D (302, .return_, 1) (mg 157 rfl)) (have ht_ := lk_t hc114_4 (by omega); ⟨rfl, (fun q i z => by rw [u2_ne _ _ _ _ (by omega)]; exact hc218_4 q i z), by rw [hc114_4]; exact (((u2_i _ _ _ _ (by omega))).trans hc218_2), by rw [ht_.1, hc114_4, show eK B n p1 - p1 = l1 by omega]; exact (((u2_i _ _ _ _ (by omega))).trans hc218_3), by rw [ht_.2.1]; first | (rw [if_neg (by omega)]; exact ((u2_s _ _ _ _))) | (rw [if_pos (by omega), if_pos (by omega)]; exact (((u2_s _ _ _ _))).trans (by rw [show tY B p1 = 2 by omega])), fun u_ => by obtain ⟨h2_, h3_⟩ := lk_w hc114_4 (by omega) u_; rw [ht_.2.2 h2_, ← show p1 + k4 = eK B n p1 by omega]; exact (u2_i _ _ _ _ (by omega)).trans (hc218_6 h2_)⟩)
                      · skip
                        have q46 : (tY B p1) = (2) := by have z := (nI_eq (a := (tY B p1)) (b := (2)) (by omega) (by omega)).mp q46; omega
                        refine X_aload_n C 0 (D (283, .aload_n 0, 1) (mg 148 rfl)) rfl rfl ?_
                        refine X_get (v := .int (hp218 (m) 13)) C (m) 13 (by omega) hsm rfl rfl (by decide) inX8 fX8_253 rfl (D (284, .getfield 253, 3) (mg 149 rfl)) rfl ?_
                        refine X_ti (y := nI (l1)) (hc218_3) ?_
                        refine X_iconst (v := nI (2)) C (D (287, .iconst 2, 1) (mg 150 rfl)) (by decide) ?_
                        refine X_icmp_le (tgt := 295) C (D (288, .if_icmp .le 7, 3) (mg 151 rfl)) (by decide) (fun q47 => ?_) (fun q47 => ?_)
                        · skip
                          have q47 : (l1) ≤ (2) := by have z := (nI_leI (a := (l1)) (b := (2)) (by omega) (by omega)).mp q47; omega
                          refine X_aload_n C 0 (D (295, .aload_n 0, 1) (mg 154 rfl)) rfl rfl ?_
                          refine X_get (v := .int (hp218 (m) 14)) C (m) 14 (by omega) hsm rfl rfl (by decide) inX8 fX8_256 rfl (D (296, .getfield 256, 3) (mg 155 rfl)) rfl ?_
                          refine X_ti (y := nI (tY B p1)) (hc218_5) ?_
                          refine X_putI C (m) 14 tyX8 tyX8_ok nmX8 (by omega) hsm rfl rfl (by decide) inX8 fX8_256 rfl rfl (by decide +kernel) (D (299, .putfield 256, 3) (mg 156 rfl)) ?_
                          exact X_vret C (D (302, .return_, 1) (mg 157 rfl)) (have ht_ := lk_t hc114_4 (by omega); ⟨rfl, (fun q i z => by rw [u2_ne _ _ _ _ (by omega)]; exact hc218_4 q i z), by rw [hc114_4]; exact (((u2_i _ _ _ _ (by omega))).trans hc218_2), by rw [ht_.1, hc114_4, show eK B n p1 - p1 = l1 by omega]; exact (((u2_i _ _ _ _ (by omega))).trans hc218_3), by rw [ht_.2.1]; first | (rw [if_neg (by omega)]; exact ((u2_s _ _ _ _))) | (rw [if_pos (by omega), if_pos (by omega)]; exact (((u2_s _ _ _ _))).trans (by rw [show tY B p1 = 2 by omega])), fun u_ => by obtain ⟨h2_, h3_⟩ := lk_w hc114_4 (by omega) u_; rw [ht_.2.2 h2_, ← show p1 + k4 = eK B n p1 by omega]; exact (u2_i _ _ _ _ (by omega)).trans (hc218_6 h2_)⟩)
                        · skip
                          have q47 : (l1) > (2) := by have z : ¬ ((l1) ≤ (2)) := fun u => q47 ((nI_leI (a := (l1)) (b := (2)) (by omega) (by omega)).mpr u); omega
                          refine X_iconst (v := nI (4)) C (D (291, .iconst 4, 1) (mg 152 rfl)) (by decide) ?_
                          refine X_goto (tgt := 299) C (D (292, .goto 7, 3) (mg 153 rfl)) (by decide) ?_
                          refine X_putI C (m) 14 tyX8 tyX8_ok nmX8 (by omega) hsm rfl rfl (by decide) inX8 fX8_256 rfl rfl (by decide +kernel) (D (299, .putfield 256, 3) (mg 156 rfl)) ?_
                          exact X_vret C (D (302, .return_, 1) (mg 157 rfl)) (have ht_ := lk_t hc114_4 (by omega); ⟨rfl, (fun q i z => by rw [u2_ne _ _ _ _ (by omega)]; exact hc218_4 q i z), by rw [hc114_4]; exact (((u2_i _ _ _ _ (by omega))).trans hc218_2), by rw [ht_.1, hc114_4, show eK B n p1 - p1 = l1 by omega]; exact (((u2_i _ _ _ _ (by omega))).trans hc218_3), by rw [ht_.2.1, if_pos (by omega), if_neg (by omega)]; exact ((u2_s _ _ _ _)), fun u_ => by obtain ⟨h2_, h3_⟩ := lk_w hc114_4 (by omega) u_; rw [ht_.2.2 h2_, ← show p1 + k4 = eK B n p1 by omega]; exact (u2_i _ _ _ _ (by omega)).trans (hc218_6 h2_)⟩)
                    · skip
                      have q45 : (k4) < (2) := by have z : ¬ ((2) ≤ (k4)) := fun u => q45 ((nI_leI (a := (2)) (b := (k4)) (by omega) (by omega)).mpr u); omega
                      refine X_aload_n C 0 (D (233, .aload_n 0, 1) (mg 121 rfl)) rfl rfl ?_
                      refine X_get (v := .int (hp218 (m) 14)) C (m) 14 (by omega) hsm rfl rfl (by decide) inX8 fX8_256 rfl (D (234, .getfield 256, 3) (mg 122 rfl)) rfl ?_
                      refine X_ti (y := nI (tY B p1)) (hc218_5) ?_
                      refine X_iconst (v := nI (2)) C (D (237, .iconst 2, 1) (mg 123 rfl)) (by decide) ?_
                      refine X_icmp_ne (tgt := 274) C (D (238, .if_icmp .ne 36, 3) (mg 124 rfl)) (by decide) (fun q48 => ?_) (fun q48 => ?_)
                      · skip
                        have q48 : (tY B p1) ≠ (2) := by have z : ¬ ((tY B p1) = (2)) := fun u => q48 ((nI_eq (a := (tY B p1)) (b := (2)) (by omega) (by omega)).mpr u); omega
                        refine X_aload_n C 0 (D (274, .aload_n 0, 1) (mg 143 rfl)) rfl rfl ?_
                        refine X_aload_n C 0 (D (275, .aload_n 0, 1) (mg 144 rfl)) rfl rfl ?_
                        refine X_get (v := .int (hp218 (m) 14)) C (m) 14 (by omega) hsm rfl rfl (by decide) inX8 fX8_256 rfl (D (276, .getfield 256, 3) (mg 145 rfl)) rfl ?_
                        refine X_ti (y := nI (tY B p1)) (hc218_5) ?_
                        refine X_iconst (v := nI (2)) C (D (279, .iconst 2, 1) (mg 146 rfl)) (by decide) ?_
                        refine X_icmp_ne (tgt := 295) C (D (280, .if_icmp .ne 15, 3) (mg 147 rfl)) (by decide) (fun q49 => ?_) (fun q49 => ?_)
                        · skip
                          have q49 : (tY B p1) ≠ (2) := by have z : ¬ ((tY B p1) = (2)) := fun u => q49 ((nI_eq (a := (tY B p1)) (b := (2)) (by omega) (by omega)).mpr u); omega
                          refine X_aload_n C 0 (D (295, .aload_n 0, 1) (mg 154 rfl)) rfl rfl ?_
                          refine X_get (v := .int (hp218 (m) 14)) C (m) 14 (by omega) hsm rfl rfl (by decide) inX8 fX8_256 rfl (D (296, .getfield 256, 3) (mg 155 rfl)) rfl ?_
                          refine X_ti (y := nI (tY B p1)) (hc218_5) ?_
                          refine X_putI C (m) 14 tyX8 tyX8_ok nmX8 (by omega) hsm rfl rfl (by decide) inX8 fX8_256 rfl rfl (by decide +kernel) (D (299, .putfield 256, 3) (mg 156 rfl)) ?_
                          exact X_vret C (D (302, .return_, 1) (mg 157 rfl)) (have ht_ := lk_t hc114_4 (by omega); ⟨rfl, (fun q i z => by rw [u2_ne _ _ _ _ (by omega)]; exact hc218_4 q i z), by rw [hc114_4]; exact (((u2_i _ _ _ _ (by omega))).trans hc218_2), by rw [ht_.1, hc114_4, show eK B n p1 - p1 = l1 by omega]; exact (((u2_i _ _ _ _ (by omega))).trans hc218_3), by rw [ht_.2.1]; first | (rw [if_neg (by omega)]; exact ((u2_s _ _ _ _))) | (rw [if_pos (by omega), if_pos (by omega)]; exact (((u2_s _ _ _ _))).trans (by rw [show tY B p1 = 2 by omega])), fun u_ => by obtain ⟨h2_, h3_⟩ := lk_w hc114_4 (by omega) u_; rw [ht_.2.2 h2_, ← show p1 + k4 = eK B n p1 by omega]; exact (u2_i _ _ _ _ (by omega)).trans (hc218_6 h2_)⟩)
                        · skip
                          have q49 : (tY B p1) = (2) := by have z := (nI_eq (a := (tY B p1)) (b := (2)) (by omega) (by omega)).mp q49; omega
                          refine X_aload_n C 0 (D (283, .aload_n 0, 1) (mg 148 rfl)) rfl rfl ?_
                          refine X_get (v := .int (hp218 (m) 13)) C (m) 13 (by omega) hsm rfl rfl (by decide) inX8 fX8_253 rfl (D (284, .getfield 253, 3) (mg 149 rfl)) rfl ?_
                          refine X_ti (y := nI (l1)) (hc218_3) ?_
                          refine X_iconst (v := nI (2)) C (D (287, .iconst 2, 1) (mg 150 rfl)) (by decide) ?_
                          refine X_icmp_le (tgt := 295) C (D (288, .if_icmp .le 7, 3) (mg 151 rfl)) (by decide) (fun q50 => ?_) (fun q50 => ?_)
                          · skip
                            have q50 : (l1) ≤ (2) := by have z := (nI_leI (a := (l1)) (b := (2)) (by omega) (by omega)).mp q50; omega
                            refine X_aload_n C 0 (D (295, .aload_n 0, 1) (mg 154 rfl)) rfl rfl ?_
                            refine X_get (v := .int (hp218 (m) 14)) C (m) 14 (by omega) hsm rfl rfl (by decide) inX8 fX8_256 rfl (D (296, .getfield 256, 3) (mg 155 rfl)) rfl ?_
                            refine X_ti (y := nI (tY B p1)) (hc218_5) ?_
                            refine X_putI C (m) 14 tyX8 tyX8_ok nmX8 (by omega) hsm rfl rfl (by decide) inX8 fX8_256 rfl rfl (by decide +kernel) (D (299, .putfield 256, 3) (mg 156 rfl)) ?_
                            exact X_vret C (D (302, .return_, 1) (mg 157 rfl)) (have ht_ := lk_t hc114_4 (by omega); ⟨rfl, (fun q i z => by rw [u2_ne _ _ _ _ (by omega)]; exact hc218_4 q i z), by rw [hc114_4]; exact (((u2_i _ _ _ _ (by omega))).trans hc218_2), by rw [ht_.1, hc114_4, show eK B n p1 - p1 = l1 by omega]; exact (((u2_i _ _ _ _ (by omega))).trans hc218_3), by rw [ht_.2.1]; first | (rw [if_neg (by omega)]; exact ((u2_s _ _ _ _))) | (rw [if_pos (by omega), if_pos (by omega)]; exact (((u2_s _ _ _ _))).trans (by rw [show tY B p1 = 2 by omega])), fun u_ => by obtain ⟨h2_, h3_⟩ := lk_w hc114_4 (by omega) u_; rw [ht_.2.2 h2_, ← show p1 + k4 = eK B n p1 by omega]; exact (u2_i _ _ _ _ (by omega)).trans (hc218_6 h2_)⟩)
                          · skip
                            have q50 : (l1) > (2) := by have z : ¬ ((l1) ≤ (2)) := fun u => q50 ((nI_leI (a := (l1)) (b := (2)) (by omega) (by omega)).mpr u); omega
                            refine X_iconst (v := nI (4)) C (D (291, .iconst 4, 1) (mg 152 rfl)) (by decide) ?_
                            refine X_goto (tgt := 299) C (D (292, .goto 7, 3) (mg 153 rfl)) (by decide) ?_
                            refine X_putI C (m) 14 tyX8 tyX8_ok nmX8 (by omega) hsm rfl rfl (by decide) inX8 fX8_256 rfl rfl (by decide +kernel) (D (299, .putfield 256, 3) (mg 156 rfl)) ?_
                            exact X_vret C (D (302, .return_, 1) (mg 157 rfl)) (have ht_ := lk_t hc114_4 (by omega); ⟨rfl, (fun q i z => by rw [u2_ne _ _ _ _ (by omega)]; exact hc218_4 q i z), by rw [hc114_4]; exact (((u2_i _ _ _ _ (by omega))).trans hc218_2), by rw [ht_.1, hc114_4, show eK B n p1 - p1 = l1 by omega]; exact (((u2_i _ _ _ _ (by omega))).trans hc218_3), by rw [ht_.2.1, if_pos (by omega), if_neg (by omega)]; exact ((u2_s _ _ _ _)), fun u_ => by obtain ⟨h2_, h3_⟩ := lk_w hc114_4 (by omega) u_; rw [ht_.2.2 h2_, ← show p1 + k4 = eK B n p1 by omega]; exact (u2_i _ _ _ _ (by omega)).trans (hc218_6 h2_)⟩)
                      · skip
                        have q48 : (tY B p1) = (2) := by have z := (nI_eq (a := (tY B p1)) (b := (2)) (by omega) (by omega)).mp q48; omega
                        refine X_aload_n C 0 (D (241, .aload_n 0, 1) (mg 125 rfl)) rfl rfl ?_
                        refine X_bipush (v := nI (10)) C (D (242, .bipush 10, 2) (mg 126 rfl)) (by decide) ?_
                        refine X_aload_n C 0 (D (244, .aload_n 0, 1) (mg 127 rfl)) rfl rfl ?_
                        refine X_get (v := .int (hp218 (m) 15)) C (m) 15 (by omega) hsm rfl rfl (by decide) inX8 fX8_259 rfl (D (245, .getfield 259, 3) (mg 128 rfl)) rfl ?_
                        refine X_ti (y := vN B p1 (p1 + k4)) ((hc218_6 q48)) ?_
                        refine X_imul C (D (248, .imul, 1) (mg 129 rfl)) ?_
                        refine X_aload_n C 0 (D (249, .aload_n 0, 1) (mg 130 rfl)) rfl rfl ?_
                        refine X_get (v := .ref (wA w (m + 9))) C (m) 10 (by omega) hsm rfl rfl (by decide) inX8 fX8_39 rfl (D (250, .getfield 39, 3) (mg 131 rfl)) rfl ?_
                        refine X_aload_n C 0 (D (253, .aload_n 0, 1) (mg 132 rfl)) rfl rfl ?_
                        refine X_get (v := .int (hp218 (m) 12)) C (m) 12 (by omega) hsm rfl rfl (by decide) inX8 fX8_250 rfl (D (254, .getfield 250, 3) (mg 133 rfl)) rfl ?_
                        refine X_ti (y := nI (p1)) (hc218_2) ?_
                        refine X_iload C (D (257, .iload 4, 2) (mg 134 rfl)) rfl ?_
                        refine X_iadd C (D (259, .iadd, 1) (mg 135 rfl)) ?_
                        refine X_ti (y := nI (p1 + k4)) (nI_add (p1) (k4)) ?_
                        refine X_iald (v := hp218 (m + 9) (p1 + k4)) C (m + 9) (by omega) hs9 (vp_in_nI (by omega) (by omega)) (D (260, .iaload, 1) (mg 136 rfl)) (by rw [nI_clamp (by omega)]) ?_
                        refine X_iadd C (D (261, .iadd, 1) (mg 137 rfl)) ?_
                        refine X_bipush (v := nI (48)) C (D (262, .bipush 48, 2) (mg 138 rfl)) (by decide) ?_
                        refine X_isub C (D (264, .isub, 1) (mg 139 rfl)) ?_
                        refine X_putI C (m) 15 tyX8 tyX8_ok nmX8 (by omega) hsm rfl rfl (by decide) inX8 fX8_259 rfl rfl (by decide +kernel) (D (265, .putfield 259, 3) (mg 140 rfl)) ?_
                        refine X_iinc (v := nI (k4 + 1)) (ls' := [some (.ref (wA w (m))), some (.int (nI (f0))), some (.int (cc)), some (.int (b3)), some (.int (nI (k4 + 1)))]) C (D (268, .iinc 4 1, 3) (mg 141 rfl)) rfl (nI_add (k4) 1) rfl ?_
                        refine X_goto (tgt := 218) C (D (271, .goto (-53), 3) (mg 142 rfl)) (by decide) ?_
                        refine X_eq (ls' := [some (.ref (wA w (m))), some (.int (nI (f0))), some (.int (cc)), some (.int (b3)), some (.int (nI (k4 + 1)))]) (st' := []) (h' := (u2 hp218 (m) 15 ((((nI (10)) * (vN B p1 (p1 + k4))) + (hp218 (m + 9) (p1 + k4))) - (nI (48))))) (g' := g) rfl rfl rfl rfl ?_
                        exact ih218 (k4 + 1) ((u2 hp218 (m) 15 ((((nI (10)) * (vN B p1 (p1 + k4))) + (hp218 (m + 9) (p1 + k4))) - (nI (48))))) (by omega) (by omega) (((u2_i _ _ _ _ (by omega))).trans hc218_2) (((u2_i _ _ _ _ (by omega))).trans hc218_3) (fun q i z => by rw [u2_ne _ _ _ _ (by omega)]; exact hc218_4 q i z) (((u2_i _ _ _ _ (by omega))).trans hc218_5) (fun _ => (((u2_s _ _ _ _))).trans (vN_s (e := p1 + k4) (by omega) (by omega) ((hc218_4 _ _ (by omega)).trans (hB _ (by omega))))) (by omega)
              refine X_eq (ls' := [some (.ref (wA w (m))), some (.int (nI (f0))), some (.int (cc)), some (.int (b3)), some (.int (nI (0)))]) (st' := []) (h' := hp136) (g' := g) rfl rfl rfl rfl ?_
              exact lp218 _ (0) (hp136) (by omega) (by omega) (hc136_4) (hc136_5) (fun q i z => by skip; exact hc136_6 q i z) (hc136_7) (fun _ => by rw [Nat.add_zero, vN_0]; exact (hc136_8)) (Nat.le_refl _)
            · skip
              have q41 : (p1 + l1) < (n) := by have z : ¬ ((n) ≤ (p1 + l1)) := fun u => q41 ((nI_leI (a := (n)) (b := (p1 + l1)) (by omega) (by omega)).mpr u); omega
              refine X_aload_n C 0 (D (156, .aload_n 0, 1) (mg 82 rfl)) rfl rfl ?_
              refine X_get (v := .ref (wA w (m + 9))) C (m) 10 (by omega) hsm rfl rfl (by decide) inX8 fX8_39 rfl (D (157, .getfield 39, 3) (mg 83 rfl)) rfl ?_
              refine X_aload_n C 0 (D (160, .aload_n 0, 1) (mg 84 rfl)) rfl rfl ?_
              refine X_get (v := .int (hp136 (m) 12)) C (m) 12 (by omega) hsm rfl rfl (by decide) inX8 fX8_250 rfl (D (161, .getfield 250, 3) (mg 85 rfl)) rfl ?_
              refine X_ti (y := nI (p1)) (hc136_4) ?_
              refine X_aload_n C 0 (D (164, .aload_n 0, 1) (mg 86 rfl)) rfl rfl ?_
              refine X_get (v := .int (hp136 (m) 13)) C (m) 13 (by omega) hsm rfl rfl (by decide) inX8 fX8_253 rfl (D (165, .getfield 253, 3) (mg 87 rfl)) rfl ?_
              refine X_ti (y := nI (l1)) (hc136_5) ?_
              refine X_iadd C (D (168, .iadd, 1) (mg 88 rfl)) ?_
              refine X_ti (y := nI (p1 + l1)) (nI_add (p1) (l1)) ?_
              refine X_iald (v := hp136 (m + 9) (p1 + l1)) C (m + 9) (by omega) hs9 (vp_in_nI (by omega) (by omega)) (D (169, .iaload, 1) (mg 89 rfl)) (by rw [nI_clamp (by omega)]) ?_
              refine X_istore (ls' := [some (.ref (wA w (m))), some (.int (nI (f0))), some (.int (cc)), some (.int (b3)), some (.int (hp136 (m + 9) (p1 + l1)))]) C (D (170, .istore 4, 2) (mg 90 rfl)) (Nat.le_of_ble_eq_true rfl) rfl ?_
              refine X_aload_n C 0 (D (172, .aload_n 0, 1) (mg 91 rfl)) rfl rfl ?_
              refine X_get (v := .int (hp136 (m) 14)) C (m) 14 (by omega) hsm rfl rfl (by decide) inX8 fX8_256 rfl (D (173, .getfield 256, 3) (mg 92 rfl)) rfl ?_
              refine X_ti (y := nI (tY B p1)) (hc136_7) ?_
              refine X_iconst (v := nI (1)) C (D (176, .iconst 1, 1) (mg 93 rfl)) (by decide) ?_
              refine X_icmp_ne (tgt := 188) C (D (177, .if_icmp .ne 11, 3) (mg 94 rfl)) (by decide) (fun q51 => ?_) (fun q51 => ?_)
              · skip
                have q51 : (tY B p1) ≠ (1) := by have z : ¬ ((tY B p1) = (1)) := fun u => q51 ((nI_eq (a := (tY B p1)) (b := (1)) (by omega) (by omega)).mpr u); omega
                refine X_iload C (D (188, .iload 4, 2) (mg 98 rfl)) rfl ?_
                refine X_cS (As := [.int (hp136 (m + 9) (p1 + l1))]) (st := []) C (post := _) (ct_X8_isFigure hw (hp136 (m + 9) (p1 + l1)) hp136 g) kX8_265 (by decide) (by decide) rfl rfl (Nat.le_of_ble_eq_true rfl) (D (190, .invokestatic 265, 3) (mg 99 rfl)) rfl (fun v54 H52 G53 hv54 => ?_)
                obtain ⟨rfl, rfl, rfl⟩ := hv54
                show X k w _ 193 [some (.ref (wA w (m))), some (.int (nI (f0))), some (.int (cc)), some (.int (b3)), some (.int (hp136 (m + 9) (p1 + l1)))] [.int (if 48 ≤ (hp136 (m + 9) (p1 + l1)).toInt ∧ (hp136 (m + 9) (p1 + l1)).toInt ≤ 57 then 1 else 0)] hp136 g
                refine X_istore_n (ls' := [some (.ref (wA w (m))), some (.int (nI (f0))), some (.int (cc)), some (.int (if 48 ≤ (hp136 (m + 9) (p1 + l1)).toInt ∧ (hp136 (m + 9) (p1 + l1)).toInt ≤ 57 then 1 else 0)), some (.int (hp136 (m + 9) (p1 + l1)))]) C 3 (D (193, .istore_n 3, 1) (mg 100 rfl)) rfl (Nat.le_of_ble_eq_true rfl) rfl ?_
                refine X_aload_n C 0 (D (194, .aload_n 0, 1) (mg 101 rfl)) rfl rfl ?_
                refine X_dup C (D (195, .dup, 1) (mg 102 rfl)) rfl ?_
                refine X_get (v := .int (hp136 (m) 13)) C (m) 13 (by omega) hsm rfl rfl (by decide) inX8 fX8_253 rfl (D (196, .getfield 253, 3) (mg 103 rfl)) rfl ?_
                refine X_ti (y := nI (l1)) (hc136_5) ?_
                refine X_iload_n C 3 (D (199, .iload_n 3, 1) (mg 104 rfl)) rfl rfl ?_
                refine X_if_eq (tgt := 207) C (D (200, .ifCond .eq 7, 3) (mg 105 rfl)) (by decide) (fun q55 => ?_) (fun q55 => ?_)
                · skip
                  have q55 : ¬ (48 ≤ (hp136 (m + 9) (p1 + l1)).toInt ∧ (hp136 (m + 9) (p1 + l1)).toInt ≤ 57) := bz0.mp q55
                  have hpk : pk B p1 (B (p1 + l1)) = false := by rw [pk2 (by omega)]; exact isFi_f (by rw [← hB (p1 + l1) (by omega), ← hc136_6 (m + 9) (p1 + l1) (by omega)]; exact q55)
                  refine X_iconst (v := nI (0)) C (D (207, .iconst 0, 1) (mg 108 rfl)) (by decide) ?_
                  refine X_iadd C (D (208, .iadd, 1) (mg 109 rfl)) ?_
                  refine X_ti (y := nI (l1 + 0)) (nI_add (l1) (0)) ?_
                  refine X_putI C (m) 13 tyX8 tyX8_ok nmX8 (by omega) hsm rfl rfl (by decide) inX8 fX8_253 rfl rfl (by decide +kernel) (D (209, .putfield 253, 3) (mg 110 rfl)) ?_
                  refine X_goto (tgt := 136) C (D (212, .goto (-76), 3) (mg 111 rfl)) (by decide) ?_
                  refine X_los (ls' := [some (.ref (wA w (m))), some (.int (nI (f0))), some (.int (cc)), some (.int (if 48 ≤ (hp136 (m + 9) (p1 + l1)).toInt ∧ (hp136 (m + 9) (p1 + l1)).toInt ≤ 57 then 1 else 0)), none]) (by simp [lsub]) ?_
                  refine X_eq (ls' := [some (.ref (wA w (m))), some (.int (nI (f0))), some (.int (cc)), some (.int (if 48 ≤ (hp136 (m + 9) (p1 + l1)).toInt ∧ (hp136 (m + 9) (p1 + l1)).toInt ≤ 57 then 1 else 0)), none]) (st' := []) (h' := (u2 hp136 (m) 13 (nI (l1 + 0)))) (g' := g) rfl rfl rfl rfl ?_
                  exact ih136 (l1 + 0) (0) (if 48 ≤ (hp136 (m + 9) (p1 + l1)).toInt ∧ (hp136 (m + 9) (p1 + l1)).toInt ≤ 57 then 1 else 0) ((u2 hp136 (m) 13 (nI (l1 + 0)))) (by omega) (by omega) (by omega) (fun _ => if_neg (by assumption)) (((u2_i _ _ _ _ (by omega))).trans hc136_4) ((u2_s _ _ _ _)) (fun q i z => by rw [u2_ne _ _ _ _ (by omega)]; exact hc136_6 q i z) (((u2_i _ _ _ _ (by omega))).trans hc136_7) (((u2_i _ _ _ _ (by omega))).trans hc136_8) (fun u_ => absurd (if_neg (by assumption)) u_) (fun _ => (rn_stop (Or.inr hpk)).symm.trans hrk) (by omega)
                · skip
                  have q55 : (48 ≤ (hp136 (m + 9) (p1 + l1)).toInt ∧ (hp136 (m + 9) (p1 + l1)).toInt ≤ 57) := bz1.mp q55
                  have hpk : pk B p1 (B (p1 + l1)) = true := by rw [pk2 (by omega)]; exact isFi_t (by rw [← hB (p1 + l1) (by omega), ← hc136_6 (m + 9) (p1 + l1) (by omega)]; exact q55)
                  refine X_iconst (v := nI (1)) C (D (203, .iconst 1, 1) (mg 106 rfl)) (by decide) ?_
                  refine X_goto (tgt := 208) C (D (204, .goto 4, 3) (mg 107 rfl)) (by decide) ?_
                  refine X_iadd C (D (208, .iadd, 1) (mg 109 rfl)) ?_
                  refine X_ti (y := nI (l1 + 1)) (nI_add (l1) (1)) ?_
                  refine X_putI C (m) 13 tyX8 tyX8_ok nmX8 (by omega) hsm rfl rfl (by decide) inX8 fX8_253 rfl rfl (by decide +kernel) (D (209, .putfield 253, 3) (mg 110 rfl)) ?_
                  refine X_goto (tgt := 136) C (D (212, .goto (-76), 3) (mg 111 rfl)) (by decide) ?_
                  refine X_los (ls' := [some (.ref (wA w (m))), some (.int (nI (f0))), some (.int (cc)), some (.int (if 48 ≤ (hp136 (m + 9) (p1 + l1)).toInt ∧ (hp136 (m + 9) (p1 + l1)).toInt ≤ 57 then 1 else 0)), none]) (by simp [lsub]) ?_
                  refine X_eq (ls' := [some (.ref (wA w (m))), some (.int (nI (f0))), some (.int (cc)), some (.int (if 48 ≤ (hp136 (m + 9) (p1 + l1)).toInt ∧ (hp136 (m + 9) (p1 + l1)).toInt ≤ 57 then 1 else 0)), none]) (st' := []) (h' := (u2 hp136 (m) 13 (nI (l1 + 1)))) (g' := g) rfl rfl rfl rfl ?_
                  exact ih136 (l1 + 1) (1) (if 48 ≤ (hp136 (m + 9) (p1 + l1)).toInt ∧ (hp136 (m + 9) (p1 + l1)).toInt ≤ 57 then 1 else 0) ((u2 hp136 (m) 13 (nI (l1 + 1)))) (by omega) (by omega) (by omega) (fun u_ => absurd u_ (by omega)) (((u2_i _ _ _ _ (by omega))).trans hc136_4) ((u2_s _ _ _ _)) (fun q i z => by rw [u2_ne _ _ _ _ (by omega)]; exact hc136_6 q i z) (((u2_i _ _ _ _ (by omega))).trans hc136_7) (((u2_i _ _ _ _ (by omega))).trans hc136_8) (fun _ => ⟨by omega, (rn_step (by omega) hpk).symm.trans hrk⟩) (fun u_ => absurd (by assumption) (bz0.mp u_)) (by omega)
              · skip
                have q51 : (tY B p1) = (1) := by have z := (nI_eq (a := (tY B p1)) (b := (1)) (by omega) (by omega)).mp q51; omega
                refine X_iload C (D (180, .iload 4, 2) (mg 95 rfl)) rfl ?_
                refine X_cS (As := [.int (hp136 (m + 9) (p1 + l1))]) (st := []) C (post := _) (ct_X8_isSmall hw (hp136 (m + 9) (p1 + l1)) hp136 g) kX8_262 (by decide) (by decide) rfl rfl (Nat.le_of_ble_eq_true rfl) (D (182, .invokestatic 262, 3) (mg 96 rfl)) rfl (fun v58 H56 G57 hv58 => ?_)
                obtain ⟨rfl, rfl, rfl⟩ := hv58
                show X k w _ 185 [some (.ref (wA w (m))), some (.int (nI (f0))), some (.int (cc)), some (.int (b3)), some (.int (hp136 (m + 9) (p1 + l1)))] [.int (if 97 ≤ (hp136 (m + 9) (p1 + l1)).toInt ∧ (hp136 (m + 9) (p1 + l1)).toInt ≤ 122 then 1 else 0)] hp136 g
                refine X_goto (tgt := 193) C (D (185, .goto 8, 3) (mg 97 rfl)) (by decide) ?_
                refine X_istore_n (ls' := [some (.ref (wA w (m))), some (.int (nI (f0))), some (.int (cc)), some (.int (if 97 ≤ (hp136 (m + 9) (p1 + l1)).toInt ∧ (hp136 (m + 9) (p1 + l1)).toInt ≤ 122 then 1 else 0)), some (.int (hp136 (m + 9) (p1 + l1)))]) C 3 (D (193, .istore_n 3, 1) (mg 100 rfl)) rfl (Nat.le_of_ble_eq_true rfl) rfl ?_
                refine X_aload_n C 0 (D (194, .aload_n 0, 1) (mg 101 rfl)) rfl rfl ?_
                refine X_dup C (D (195, .dup, 1) (mg 102 rfl)) rfl ?_
                refine X_get (v := .int (hp136 (m) 13)) C (m) 13 (by omega) hsm rfl rfl (by decide) inX8 fX8_253 rfl (D (196, .getfield 253, 3) (mg 103 rfl)) rfl ?_
                refine X_ti (y := nI (l1)) (hc136_5) ?_
                refine X_iload_n C 3 (D (199, .iload_n 3, 1) (mg 104 rfl)) rfl rfl ?_
                refine X_if_eq (tgt := 207) C (D (200, .ifCond .eq 7, 3) (mg 105 rfl)) (by decide) (fun q59 => ?_) (fun q59 => ?_)
                · skip
                  have q59 : ¬ (97 ≤ (hp136 (m + 9) (p1 + l1)).toInt ∧ (hp136 (m + 9) (p1 + l1)).toInt ≤ 122) := bz0.mp q59
                  have hpk : pk B p1 (B (p1 + l1)) = false := by rw [pk1 (by omega)]; exact isLe_f (by rw [← hB (p1 + l1) (by omega), ← hc136_6 (m + 9) (p1 + l1) (by omega)]; exact q59)
                  refine X_iconst (v := nI (0)) C (D (207, .iconst 0, 1) (mg 108 rfl)) (by decide) ?_
                  refine X_iadd C (D (208, .iadd, 1) (mg 109 rfl)) ?_
                  refine X_ti (y := nI (l1 + 0)) (nI_add (l1) (0)) ?_
                  refine X_putI C (m) 13 tyX8 tyX8_ok nmX8 (by omega) hsm rfl rfl (by decide) inX8 fX8_253 rfl rfl (by decide +kernel) (D (209, .putfield 253, 3) (mg 110 rfl)) ?_
                  refine X_goto (tgt := 136) C (D (212, .goto (-76), 3) (mg 111 rfl)) (by decide) ?_
                  refine X_los (ls' := [some (.ref (wA w (m))), some (.int (nI (f0))), some (.int (cc)), some (.int (if 97 ≤ (hp136 (m + 9) (p1 + l1)).toInt ∧ (hp136 (m + 9) (p1 + l1)).toInt ≤ 122 then 1 else 0)), none]) (by simp [lsub]) ?_
                  refine X_eq (ls' := [some (.ref (wA w (m))), some (.int (nI (f0))), some (.int (cc)), some (.int (if 97 ≤ (hp136 (m + 9) (p1 + l1)).toInt ∧ (hp136 (m + 9) (p1 + l1)).toInt ≤ 122 then 1 else 0)), none]) (st' := []) (h' := (u2 hp136 (m) 13 (nI (l1 + 0)))) (g' := g) rfl rfl rfl rfl ?_
                  exact ih136 (l1 + 0) (0) (if 97 ≤ (hp136 (m + 9) (p1 + l1)).toInt ∧ (hp136 (m + 9) (p1 + l1)).toInt ≤ 122 then 1 else 0) ((u2 hp136 (m) 13 (nI (l1 + 0)))) (by omega) (by omega) (by omega) (fun _ => if_neg (by assumption)) (((u2_i _ _ _ _ (by omega))).trans hc136_4) ((u2_s _ _ _ _)) (fun q i z => by rw [u2_ne _ _ _ _ (by omega)]; exact hc136_6 q i z) (((u2_i _ _ _ _ (by omega))).trans hc136_7) (((u2_i _ _ _ _ (by omega))).trans hc136_8) (fun u_ => absurd (if_neg (by assumption)) u_) (fun _ => (rn_stop (Or.inr hpk)).symm.trans hrk) (by omega)
                · skip
                  have q59 : (97 ≤ (hp136 (m + 9) (p1 + l1)).toInt ∧ (hp136 (m + 9) (p1 + l1)).toInt ≤ 122) := bz1.mp q59
                  have hpk : pk B p1 (B (p1 + l1)) = true := by rw [pk1 (by omega)]; exact isLe_t (by rw [← hB (p1 + l1) (by omega), ← hc136_6 (m + 9) (p1 + l1) (by omega)]; exact q59)
                  refine X_iconst (v := nI (1)) C (D (203, .iconst 1, 1) (mg 106 rfl)) (by decide) ?_
                  refine X_goto (tgt := 208) C (D (204, .goto 4, 3) (mg 107 rfl)) (by decide) ?_
                  refine X_iadd C (D (208, .iadd, 1) (mg 109 rfl)) ?_
                  refine X_ti (y := nI (l1 + 1)) (nI_add (l1) (1)) ?_
                  refine X_putI C (m) 13 tyX8 tyX8_ok nmX8 (by omega) hsm rfl rfl (by decide) inX8 fX8_253 rfl rfl (by decide +kernel) (D (209, .putfield 253, 3) (mg 110 rfl)) ?_
                  refine X_goto (tgt := 136) C (D (212, .goto (-76), 3) (mg 111 rfl)) (by decide) ?_
                  refine X_los (ls' := [some (.ref (wA w (m))), some (.int (nI (f0))), some (.int (cc)), some (.int (if 97 ≤ (hp136 (m + 9) (p1 + l1)).toInt ∧ (hp136 (m + 9) (p1 + l1)).toInt ≤ 122 then 1 else 0)), none]) (by simp [lsub]) ?_
                  refine X_eq (ls' := [some (.ref (wA w (m))), some (.int (nI (f0))), some (.int (cc)), some (.int (if 97 ≤ (hp136 (m + 9) (p1 + l1)).toInt ∧ (hp136 (m + 9) (p1 + l1)).toInt ≤ 122 then 1 else 0)), none]) (st' := []) (h' := (u2 hp136 (m) 13 (nI (l1 + 1)))) (g' := g) rfl rfl rfl rfl ?_
                  exact ih136 (l1 + 1) (1) (if 97 ≤ (hp136 (m + 9) (p1 + l1)).toInt ∧ (hp136 (m + 9) (p1 + l1)).toInt ≤ 122 then 1 else 0) ((u2 hp136 (m) 13 (nI (l1 + 1)))) (by omega) (by omega) (by omega) (fun u_ => absurd u_ (by omega)) (((u2_i _ _ _ _ (by omega))).trans hc136_4) ((u2_s _ _ _ _)) (fun q i z => by rw [u2_ne _ _ _ _ (by omega)]; exact hc136_6 q i z) (((u2_i _ _ _ _ (by omega))).trans hc136_7) (((u2_i _ _ _ _ (by omega))).trans hc136_8) (fun _ => ⟨by omega, (rn_step (by omega) hpk).symm.trans hrk⟩) (fun u_ => absurd (by assumption) (bz0.mp u_)) (by omega)
      refine X_eq (ls' := [some (.ref (wA w (m))), some (.int (nI (f0))), some (.int (cc)), some (.int (nI (1))), none]) (st' := []) (h' := (u2 (u2 hh (m) 14 (nI (tY B p1))) (m) 13 (nI (1)))) (g' := g) rfl rfl rfl rfl ?_
      exact lp136 _ (1) (1) (nI (1)) ((u2 (u2 hh (m) 14 (nI (tY B p1))) (m) 13 (nI (1)))) (by omega) (by omega) (by omega) (fun u_ => absurd u_ (by omega)) ((((u2_i _ _ _ _ (by omega))).trans (u2_i _ _ _ _ (by omega))).trans hc114_2) ((u2_s _ _ _ _)) (fun q i z => by rw [u2_ne _ _ _ _ (by omega), u2_ne _ _ _ _ (by omega)]; exact hc114_3 q i z) (((u2_i _ _ _ _ (by omega))).trans (u2_s _ _ _ _)) ((((u2_i _ _ _ _ (by omega))).trans (u2_i _ _ _ _ (by omega))).trans hc114_5) (fun _ => ⟨by omega, lk_a (by omega) (by omega)⟩) (fun u_ => absurd u_ (by decide)) (Nat.le_refl _)
  refine X_aload_n C 0 (D (0, .aload_n 0, 1) (mg 0 rfl)) rfl rfl ?_
  refine X_iload_n C 1 (D (1, .iload_n 1, 1) (mg 1 rfl)) rfl rfl ?_
  refine X_putI C (m) 12 tyX8 tyX8_ok nmX8 (by omega) hsm rfl rfl (by decide) inX8 fX8_250 rfl rfl (by decide +kernel) (D (2, .putfield 250, 3) (mg 2 rfl)) ?_
  have lp5 : ∀ (nn5 : Nat) (p1 : Nat) (hp5 : xI), (f0 ≤ p1) → (p1 ≤ n) → (hp5 m 12 = nI p1) → (∀ q i, (q ≠ m ∨ i < 12 ∨ 15 < i) → hp5 q i = h q i) → (rn isSp B n p1 = rn isSp B n f0) → n + 1 - p1 ≤ nn5 → X k w (Zq k w (pQv (fun h' => fL m h h' ∧ kM B n f0 m h'))) 5 [some (.ref (wA w (m))), some (.int (nI (f0))), none, none, none] [] hp5 g := by
    intro nn5
    induction nn5 with
    | zero => intro p1 hp5 hc5_0 hc5_1 hc5_2 hc5_3 hc5_4 hz; exact absurd hz (by omega)
    | succ nn5 ih5 =>
      intro p1 hp5 hc5_0 hc5_1 hc5_2 hc5_3 hc5_4 hz5
      refine X_aload_n C 0 (D (5, .aload_n 0, 1) (mg 3 rfl)) rfl rfl ?_
      refine X_get (v := .int (hp5 (m) 12)) C (m) 12 (by omega) hsm rfl rfl (by decide) inX8 fX8_250 rfl (D (6, .getfield 250, 3) (mg 4 rfl)) rfl ?_
      refine X_ti (y := nI (p1)) (hc5_2) ?_
      refine X_aload_n C 0 (D (9, .aload_n 0, 1) (mg 5 rfl)) rfl rfl ?_
      refine X_get (v := .int (hp5 (m) 11)) C (m) 11 (by omega) hsm rfl rfl (by decide) inX8 fX8_238 rfl (D (10, .getfield 238, 3) (mg 6 rfl)) rfl ?_
      refine X_ti (y := nI (n)) (((hc5_3 _ _ (by omega)).trans hb)) ?_
      refine X_icmp_ge (tgt := 43) C (D (13, .if_icmp .ge 30, 3) (mg 7 rfl)) (by decide) (fun q60 => ?_) (fun q60 => ?_)
      · skip
        have q60 : (p1) ≥ (n) := by have z := (nI_leI (a := (n)) (b := (p1)) (by omega) (by omega)).mp q60; omega
        have hrx : tS B n f0 = p1 := hc5_4.symm.trans (rn_stop (Or.inl (by omega)))
        refine X_aload_n C 0 (D (43, .aload_n 0, 1) (mg 22 rfl)) rfl rfl ?_
        refine X_iconst (v := nI (0)) C (D (44, .iconst 0, 1) (mg 23 rfl)) (by decide) ?_
        refine X_putI C (m) 13 tyX8 tyX8_ok nmX8 (by omega) hsm rfl rfl (by decide) inX8 fX8_253 rfl rfl (by decide +kernel) (D (45, .putfield 253, 3) (mg 24 rfl)) ?_
        refine X_aload_n C 0 (D (48, .aload_n 0, 1) (mg 25 rfl)) rfl rfl ?_
        refine X_iconst (v := nI (0)) C (D (49, .iconst 0, 1) (mg 26 rfl)) (by decide) ?_
        refine X_putI C (m) 14 tyX8 tyX8_ok nmX8 (by omega) hsm rfl rfl (by decide) inX8 fX8_256 rfl rfl (by decide +kernel) (D (50, .putfield 256, 3) (mg 27 rfl)) ?_
        refine X_aload_n C 0 (D (53, .aload_n 0, 1) (mg 28 rfl)) rfl rfl ?_
        refine X_iconst (v := nI (0)) C (D (54, .iconst 0, 1) (mg 29 rfl)) (by decide) ?_
        refine X_putI C (m) 15 tyX8 tyX8_ok nmX8 (by omega) hsm rfl rfl (by decide) inX8 fX8_259 rfl rfl (by decide +kernel) (D (55, .putfield 259, 3) (mg 30 rfl)) ?_
        refine X_aload_n C 0 (D (58, .aload_n 0, 1) (mg 31 rfl)) rfl rfl ?_
        refine X_get (v := .int ((u2 (u2 (u2 hp5 (m) 13 (nI (0))) (m) 14 (nI (0))) (m) 15 (nI (0))) (m) 12)) C (m) 12 (by omega) hsm rfl rfl (by decide) inX8 fX8_250 rfl (D (59, .getfield 250, 3) (mg 32 rfl)) rfl ?_
        refine X_ti (y := nI (p1)) (((((u2_i _ _ _ _ (by omega))).trans (u2_i _ _ _ _ (by omega))).trans (u2_i _ _ _ _ (by omega))).trans hc5_2) ?_
        refine X_aload_n C 0 (D (62, .aload_n 0, 1) (mg 33 rfl)) rfl rfl ?_
        refine X_get (v := .int ((u2 (u2 (u2 hp5 (m) 13 (nI (0))) (m) 14 (nI (0))) (m) 15 (nI (0))) (m) 11)) C (m) 11 (by omega) hsm rfl rfl (by decide) inX8 fX8_238 rfl (D (63, .getfield 238, 3) (mg 34 rfl)) rfl ?_
        refine X_ti (y := nI (n)) (((((u2_i _ _ _ _ (by omega))).trans (u2_i _ _ _ _ (by omega))).trans (u2_i _ _ _ _ (by omega))).trans ((hc5_3 _ _ (by omega)).trans hb)) ?_
        refine X_icmp_ne (tgt := 70) C (D (66, .if_icmp .ne 4, 3) (mg 35 rfl)) (by decide) (fun q61 => ?_) (fun q61 => ?_)
        · skip
          have q61 : (p1) ≠ (n) := by have z : ¬ ((p1) = (n)) := fun u => q61 ((nI_eq (a := (p1)) (b := (n)) (by omega) (by omega)).mpr u); omega
          have hby : (u2 (u2 (u2 hp5 (m) 13 (nI (0))) (m) 14 (nI (0))) (m) 15 (nI (0))) (m + 9) (p1) = B p1 := (by rw [u2_ne _ _ _ _ (by omega), u2_ne _ _ _ _ (by omega), u2_ne _ _ _ _ (by omega)]; exact (hc5_3 _ _ (by omega)).trans (hB p1 (by omega)))
          refine X_aload_n C 0 (D (70, .aload_n 0, 1) (mg 37 rfl)) rfl rfl ?_
          refine X_get (v := .ref (wA w (m + 9))) C (m) 10 (by omega) hsm rfl rfl (by decide) inX8 fX8_39 rfl (D (71, .getfield 39, 3) (mg 38 rfl)) rfl ?_
          refine X_aload_n C 0 (D (74, .aload_n 0, 1) (mg 39 rfl)) rfl rfl ?_
          refine X_get (v := .int ((u2 (u2 (u2 hp5 (m) 13 (nI (0))) (m) 14 (nI (0))) (m) 15 (nI (0))) (m) 12)) C (m) 12 (by omega) hsm rfl rfl (by decide) inX8 fX8_250 rfl (D (75, .getfield 250, 3) (mg 40 rfl)) rfl ?_
          refine X_ti (y := nI (p1)) (((((u2_i _ _ _ _ (by omega))).trans (u2_i _ _ _ _ (by omega))).trans (u2_i _ _ _ _ (by omega))).trans hc5_2) ?_
          refine X_iald (v := (u2 (u2 (u2 hp5 (m) 13 (nI (0))) (m) 14 (nI (0))) (m) 15 (nI (0))) (m + 9) (p1)) C (m + 9) (by omega) hs9 (vp_in_nI (by omega) (by omega)) (D (78, .iaload, 1) (mg 41 rfl)) (by rw [nI_clamp (by omega)]) ?_
          refine X_istore_n (ls' := [some (.ref (wA w (m))), some (.int (nI (f0))), some (.int ((u2 (u2 (u2 hp5 (m) 13 (nI (0))) (m) 14 (nI (0))) (m) 15 (nI (0))) (m + 9) (p1))), none, none]) C 2 (D (79, .istore_n 2, 1) (mg 42 rfl)) rfl (Nat.le_of_ble_eq_true rfl) rfl ?_
          refine X_aload_n C 0 (D (80, .aload_n 0, 1) (mg 43 rfl)) rfl rfl ?_
          refine X_iload_n C 2 (D (81, .iload_n 2, 1) (mg 44 rfl)) rfl rfl ?_
          refine X_cS (As := [.int ((u2 (u2 (u2 hp5 (m) 13 (nI (0))) (m) 14 (nI (0))) (m) 15 (nI (0))) (m + 9) (p1))]) (st := [.ref (wA w (m))]) C (post := _) (ct_X8_isSmall hw ((u2 (u2 (u2 hp5 (m) 13 (nI (0))) (m) 14 (nI (0))) (m) 15 (nI (0))) (m + 9) (p1)) (u2 (u2 (u2 hp5 (m) 13 (nI (0))) (m) 14 (nI (0))) (m) 15 (nI (0))) g) kX8_262 (by decide) (by decide) rfl rfl (Nat.le_of_ble_eq_true rfl) (D (82, .invokestatic 262, 3) (mg 45 rfl)) rfl (fun v64 H62 G63 hv64 => ?_)
          obtain ⟨rfl, rfl, rfl⟩ := hv64
          show X k w _ 85 [some (.ref (wA w (m))), some (.int (nI (f0))), some (.int ((u2 (u2 (u2 hp5 (m) 13 (nI (0))) (m) 14 (nI (0))) (m) 15 (nI (0))) (m + 9) (p1))), none, none] [.int (if 97 ≤ ((u2 (u2 (u2 hp5 (m) 13 (nI (0))) (m) 14 (nI (0))) (m) 15 (nI (0))) (m + 9) (p1)).toInt ∧ ((u2 (u2 (u2 hp5 (m) 13 (nI (0))) (m) 14 (nI (0))) (m) 15 (nI (0))) (m + 9) (p1)).toInt ≤ 122 then 1 else 0), .ref (wA w (m))] (u2 (u2 (u2 hp5 (m) 13 (nI (0))) (m) 14 (nI (0))) (m) 15 (nI (0))) g
          refine X_if_eq (tgt := 92) C (D (85, .ifCond .eq 7, 3) (mg 46 rfl)) (by decide) (fun q65 => ?_) (fun q65 => ?_)
          · skip
            have q65 : ¬ (97 ≤ ((u2 (u2 (u2 hp5 (m) 13 (nI (0))) (m) 14 (nI (0))) (m) 15 (nI (0))) (m + 9) (p1)).toInt ∧ ((u2 (u2 (u2 hp5 (m) 13 (nI (0))) (m) 14 (nI (0))) (m) 15 (nI (0))) (m + 9) (p1)).toInt ≤ 122) := bz0.mp q65
            have hLe := isLe_f (x := B p1) (by rw [← hby]; exact q65)
            refine X_iload_n C 2 (D (92, .iload_n 2, 1) (mg 49 rfl)) rfl rfl ?_
            refine X_cS (As := [.int ((u2 (u2 (u2 hp5 (m) 13 (nI (0))) (m) 14 (nI (0))) (m) 15 (nI (0))) (m + 9) (p1))]) (st := [.ref (wA w (m))]) C (post := _) (ct_X8_isFigure hw ((u2 (u2 (u2 hp5 (m) 13 (nI (0))) (m) 14 (nI (0))) (m) 15 (nI (0))) (m + 9) (p1)) (u2 (u2 (u2 hp5 (m) 13 (nI (0))) (m) 14 (nI (0))) (m) 15 (nI (0))) g) kX8_265 (by decide) (by decide) rfl rfl (Nat.le_of_ble_eq_true rfl) (D (93, .invokestatic 265, 3) (mg 50 rfl)) rfl (fun v68 H66 G67 hv68 => ?_)
            obtain ⟨rfl, rfl, rfl⟩ := hv68
            show X k w _ 96 [some (.ref (wA w (m))), some (.int (nI (f0))), some (.int ((u2 (u2 (u2 hp5 (m) 13 (nI (0))) (m) 14 (nI (0))) (m) 15 (nI (0))) (m + 9) (p1))), none, none] [.int (if 48 ≤ ((u2 (u2 (u2 hp5 (m) 13 (nI (0))) (m) 14 (nI (0))) (m) 15 (nI (0))) (m + 9) (p1)).toInt ∧ ((u2 (u2 (u2 hp5 (m) 13 (nI (0))) (m) 14 (nI (0))) (m) 15 (nI (0))) (m + 9) (p1)).toInt ≤ 57 then 1 else 0), .ref (wA w (m))] (u2 (u2 (u2 hp5 (m) 13 (nI (0))) (m) 14 (nI (0))) (m) 15 (nI (0))) g
            refine X_if_eq (tgt := 103) C (D (96, .ifCond .eq 7, 3) (mg 51 rfl)) (by decide) (fun q69 => ?_) (fun q69 => ?_)
            · skip
              have q69 : ¬ (48 ≤ ((u2 (u2 (u2 hp5 (m) 13 (nI (0))) (m) 14 (nI (0))) (m) 15 (nI (0))) (m + 9) (p1)).toInt ∧ ((u2 (u2 (u2 hp5 (m) 13 (nI (0))) (m) 14 (nI (0))) (m) 15 (nI (0))) (m + 9) (p1)).toInt ≤ 57) := bz0.mp q69
              have hFi := isFi_f (x := B p1) (by rw [← hby]; exact q69)
              refine X_iload_n C 2 (D (103, .iload_n 2, 1) (mg 54 rfl)) rfl rfl ?_
              refine X_bipush (v := nI (59)) C (D (104, .bipush 59, 2) (mg 55 rfl)) (by decide) ?_
              refine X_icmp_ne (tgt := 113) C (D (106, .if_icmp .ne 7, 3) (mg 56 rfl)) (by decide) (fun q70 => ?_) (fun q70 => ?_)
              · skip
                have h59 : ¬ B p1 = nI 59 := (by rw [← hby]; exact q70)
                refine X_iconst (v := nI (4)) C (D (113, .iconst 4, 1) (mg 59 rfl)) (by decide) ?_
                refine X_eq (ls' := [some (.ref (wA w (m))), some (.int (nI (f0))), some (.int ((u2 (u2 (u2 hp5 (m) 13 (nI (0))) (m) 14 (nI (0))) (m) 15 (nI (0))) (m + 9) (p1))), none, none]) (st' := [.int (nI (tY B p1)), .ref (wA w (m))]) (h' := (u2 (u2 (u2 hp5 (m) 13 (nI (0))) (m) 14 (nI (0))) (m) 15 (nI (0)))) (g' := g) rfl (by rw [ty_4 hLe hFi h59]) rfl rfl ?_
                exact jn114 ((u2 (u2 (u2 hp5 (m) 13 (nI (0))) (m) 14 (nI (0))) (m) 15 (nI (0)))) (p1) ((u2 (u2 (u2 hp5 (m) 13 (nI (0))) (m) 14 (nI (0))) (m) 15 (nI (0))) (m + 9) (p1)) (by omega) (by omega) (((((u2_i _ _ _ _ (by omega))).trans (u2_i _ _ _ _ (by omega))).trans (u2_i _ _ _ _ (by omega))).trans hc5_2) (fun q i z => by rw [u2_ne _ _ _ _ (by omega), u2_ne _ _ _ _ (by omega), u2_ne _ _ _ _ (by omega)]; exact hc5_3 q i z) hrx ((u2_s _ _ _ _))
              · skip
                have h59 : B p1 = nI 59 := (by rw [← hby]; exact q70)
                refine X_iconst (v := nI (3)) C (D (109, .iconst 3, 1) (mg 57 rfl)) (by decide) ?_
                refine X_goto (tgt := 114) C (D (110, .goto 4, 3) (mg 58 rfl)) (by decide) ?_
                refine X_eq (ls' := [some (.ref (wA w (m))), some (.int (nI (f0))), some (.int ((u2 (u2 (u2 hp5 (m) 13 (nI (0))) (m) 14 (nI (0))) (m) 15 (nI (0))) (m + 9) (p1))), none, none]) (st' := [.int (nI (tY B p1)), .ref (wA w (m))]) (h' := (u2 (u2 (u2 hp5 (m) 13 (nI (0))) (m) 14 (nI (0))) (m) 15 (nI (0)))) (g' := g) rfl (by rw [ty_3 hLe hFi h59]) rfl rfl ?_
                exact jn114 ((u2 (u2 (u2 hp5 (m) 13 (nI (0))) (m) 14 (nI (0))) (m) 15 (nI (0)))) (p1) ((u2 (u2 (u2 hp5 (m) 13 (nI (0))) (m) 14 (nI (0))) (m) 15 (nI (0))) (m + 9) (p1)) (by omega) (by omega) (((((u2_i _ _ _ _ (by omega))).trans (u2_i _ _ _ _ (by omega))).trans (u2_i _ _ _ _ (by omega))).trans hc5_2) (fun q i z => by rw [u2_ne _ _ _ _ (by omega), u2_ne _ _ _ _ (by omega), u2_ne _ _ _ _ (by omega)]; exact hc5_3 q i z) hrx ((u2_s _ _ _ _))
            · skip
              have q69 : (48 ≤ ((u2 (u2 (u2 hp5 (m) 13 (nI (0))) (m) 14 (nI (0))) (m) 15 (nI (0))) (m + 9) (p1)).toInt ∧ ((u2 (u2 (u2 hp5 (m) 13 (nI (0))) (m) 14 (nI (0))) (m) 15 (nI (0))) (m + 9) (p1)).toInt ≤ 57) := bz1.mp q69
              have hFi := isFi_t (x := B p1) (by rw [← hby]; exact q69)
              refine X_iconst (v := nI (2)) C (D (99, .iconst 2, 1) (mg 52 rfl)) (by decide) ?_
              refine X_goto (tgt := 114) C (D (100, .goto 14, 3) (mg 53 rfl)) (by decide) ?_
              refine X_eq (ls' := [some (.ref (wA w (m))), some (.int (nI (f0))), some (.int ((u2 (u2 (u2 hp5 (m) 13 (nI (0))) (m) 14 (nI (0))) (m) 15 (nI (0))) (m + 9) (p1))), none, none]) (st' := [.int (nI (tY B p1)), .ref (wA w (m))]) (h' := (u2 (u2 (u2 hp5 (m) 13 (nI (0))) (m) 14 (nI (0))) (m) 15 (nI (0)))) (g' := g) rfl (by rw [ty_2 hLe hFi]) rfl rfl ?_
              exact jn114 ((u2 (u2 (u2 hp5 (m) 13 (nI (0))) (m) 14 (nI (0))) (m) 15 (nI (0)))) (p1) ((u2 (u2 (u2 hp5 (m) 13 (nI (0))) (m) 14 (nI (0))) (m) 15 (nI (0))) (m + 9) (p1)) (by omega) (by omega) (((((u2_i _ _ _ _ (by omega))).trans (u2_i _ _ _ _ (by omega))).trans (u2_i _ _ _ _ (by omega))).trans hc5_2) (fun q i z => by rw [u2_ne _ _ _ _ (by omega), u2_ne _ _ _ _ (by omega), u2_ne _ _ _ _ (by omega)]; exact hc5_3 q i z) hrx ((u2_s _ _ _ _))
          · skip
            have q65 : (97 ≤ ((u2 (u2 (u2 hp5 (m) 13 (nI (0))) (m) 14 (nI (0))) (m) 15 (nI (0))) (m + 9) (p1)).toInt ∧ ((u2 (u2 (u2 hp5 (m) 13 (nI (0))) (m) 14 (nI (0))) (m) 15 (nI (0))) (m + 9) (p1)).toInt ≤ 122) := bz1.mp q65
            have hLe := isLe_t (x := B p1) (by rw [← hby]; exact q65)
            refine X_iconst (v := nI (1)) C (D (88, .iconst 1, 1) (mg 47 rfl)) (by decide) ?_
            refine X_goto (tgt := 114) C (D (89, .goto 25, 3) (mg 48 rfl)) (by decide) ?_
            refine X_eq (ls' := [some (.ref (wA w (m))), some (.int (nI (f0))), some (.int ((u2 (u2 (u2 hp5 (m) 13 (nI (0))) (m) 14 (nI (0))) (m) 15 (nI (0))) (m + 9) (p1))), none, none]) (st' := [.int (nI (tY B p1)), .ref (wA w (m))]) (h' := (u2 (u2 (u2 hp5 (m) 13 (nI (0))) (m) 14 (nI (0))) (m) 15 (nI (0)))) (g' := g) rfl (by rw [ty_1 hLe]) rfl rfl ?_
            exact jn114 ((u2 (u2 (u2 hp5 (m) 13 (nI (0))) (m) 14 (nI (0))) (m) 15 (nI (0)))) (p1) ((u2 (u2 (u2 hp5 (m) 13 (nI (0))) (m) 14 (nI (0))) (m) 15 (nI (0))) (m + 9) (p1)) (by omega) (by omega) (((((u2_i _ _ _ _ (by omega))).trans (u2_i _ _ _ _ (by omega))).trans (u2_i _ _ _ _ (by omega))).trans hc5_2) (fun q i z => by rw [u2_ne _ _ _ _ (by omega), u2_ne _ _ _ _ (by omega), u2_ne _ _ _ _ (by omega)]; exact hc5_3 q i z) hrx ((u2_s _ _ _ _))
        · skip
          have q61 : (p1) = (n) := by have z := (nI_eq (a := (p1)) (b := (n)) (by omega) (by omega)).mp q61; omega
          have hfin := tk_0 hrx (by omega)
          exact X_vret C (D (69, .return_, 1) (mg 36 rfl)) ⟨rfl, (fun q i z => by rw [u2_ne _ _ _ _ (by omega), u2_ne _ _ _ _ (by omega), u2_ne _ _ _ _ (by omega)]; exact hc5_3 q i z), by rw [hrx]; exact (((((u2_i _ _ _ _ (by omega))).trans (u2_i _ _ _ _ (by omega))).trans (u2_i _ _ _ _ (by omega))).trans hc5_2), by rw [hfin.1, hrx, Nat.sub_self]; exact ((((u2_i _ _ _ _ (by omega))).trans (u2_i _ _ _ _ (by omega))).trans (u2_s _ _ _ _)), by rw [hfin.2]; exact (((u2_i _ _ _ _ (by omega))).trans (u2_s _ _ _ _)), fun u_ => absurd (hfin.2.symm.trans u_) (by decide)⟩
      · skip
        have q60 : (p1) < (n) := by have z : ¬ ((n) ≤ (p1)) := fun u => q60 ((nI_leI (a := (n)) (b := (p1)) (by omega) (by omega)).mpr u); omega
        refine X_aload_n C 0 (D (16, .aload_n 0, 1) (mg 8 rfl)) rfl rfl ?_
        refine X_get (v := .ref (wA w (m + 9))) C (m) 10 (by omega) hsm rfl rfl (by decide) inX8 fX8_39 rfl (D (17, .getfield 39, 3) (mg 9 rfl)) rfl ?_
        refine X_aload_n C 0 (D (20, .aload_n 0, 1) (mg 10 rfl)) rfl rfl ?_
        refine X_get (v := .int (hp5 (m) 12)) C (m) 12 (by omega) hsm rfl rfl (by decide) inX8 fX8_250 rfl (D (21, .getfield 250, 3) (mg 11 rfl)) rfl ?_
        refine X_ti (y := nI (p1)) (hc5_2) ?_
        refine X_iald (v := hp5 (m + 9) (p1)) C (m + 9) (by omega) hs9 (vp_in_nI (by omega) (by omega)) (D (24, .iaload, 1) (mg 12 rfl)) (by rw [nI_clamp (by omega)]) ?_
        refine X_bipush (v := nI (32)) C (D (25, .bipush 32, 2) (mg 13 rfl)) (by decide) ?_
        refine X_icmp_ne (tgt := 43) C (D (27, .if_icmp .ne 16, 3) (mg 14 rfl)) (by decide) (fun q71 => ?_) (fun q71 => ?_)
        · skip
          have hrx : tS B n f0 = p1 := hc5_4.symm.trans (rn_stop (Or.inr (isSp_f (by rw [← hB p1 (by omega), ← hc5_3 (m + 9) p1 (by omega)]; exact q71))))
          refine X_aload_n C 0 (D (43, .aload_n 0, 1) (mg 22 rfl)) rfl rfl ?_
          refine X_iconst (v := nI (0)) C (D (44, .iconst 0, 1) (mg 23 rfl)) (by decide) ?_
          refine X_putI C (m) 13 tyX8 tyX8_ok nmX8 (by omega) hsm rfl rfl (by decide) inX8 fX8_253 rfl rfl (by decide +kernel) (D (45, .putfield 253, 3) (mg 24 rfl)) ?_
          refine X_aload_n C 0 (D (48, .aload_n 0, 1) (mg 25 rfl)) rfl rfl ?_
          refine X_iconst (v := nI (0)) C (D (49, .iconst 0, 1) (mg 26 rfl)) (by decide) ?_
          refine X_putI C (m) 14 tyX8 tyX8_ok nmX8 (by omega) hsm rfl rfl (by decide) inX8 fX8_256 rfl rfl (by decide +kernel) (D (50, .putfield 256, 3) (mg 27 rfl)) ?_
          refine X_aload_n C 0 (D (53, .aload_n 0, 1) (mg 28 rfl)) rfl rfl ?_
          refine X_iconst (v := nI (0)) C (D (54, .iconst 0, 1) (mg 29 rfl)) (by decide) ?_
          refine X_putI C (m) 15 tyX8 tyX8_ok nmX8 (by omega) hsm rfl rfl (by decide) inX8 fX8_259 rfl rfl (by decide +kernel) (D (55, .putfield 259, 3) (mg 30 rfl)) ?_
          refine X_aload_n C 0 (D (58, .aload_n 0, 1) (mg 31 rfl)) rfl rfl ?_
          refine X_get (v := .int ((u2 (u2 (u2 hp5 (m) 13 (nI (0))) (m) 14 (nI (0))) (m) 15 (nI (0))) (m) 12)) C (m) 12 (by omega) hsm rfl rfl (by decide) inX8 fX8_250 rfl (D (59, .getfield 250, 3) (mg 32 rfl)) rfl ?_
          refine X_ti (y := nI (p1)) (((((u2_i _ _ _ _ (by omega))).trans (u2_i _ _ _ _ (by omega))).trans (u2_i _ _ _ _ (by omega))).trans hc5_2) ?_
          refine X_aload_n C 0 (D (62, .aload_n 0, 1) (mg 33 rfl)) rfl rfl ?_
          refine X_get (v := .int ((u2 (u2 (u2 hp5 (m) 13 (nI (0))) (m) 14 (nI (0))) (m) 15 (nI (0))) (m) 11)) C (m) 11 (by omega) hsm rfl rfl (by decide) inX8 fX8_238 rfl (D (63, .getfield 238, 3) (mg 34 rfl)) rfl ?_
          refine X_ti (y := nI (n)) (((((u2_i _ _ _ _ (by omega))).trans (u2_i _ _ _ _ (by omega))).trans (u2_i _ _ _ _ (by omega))).trans ((hc5_3 _ _ (by omega)).trans hb)) ?_
          refine X_icmp_ne (tgt := 70) C (D (66, .if_icmp .ne 4, 3) (mg 35 rfl)) (by decide) (fun q72 => ?_) (fun q72 => ?_)
          · skip
            have q72 : (p1) ≠ (n) := by have z : ¬ ((p1) = (n)) := fun u => q72 ((nI_eq (a := (p1)) (b := (n)) (by omega) (by omega)).mpr u); omega
            have hby : (u2 (u2 (u2 hp5 (m) 13 (nI (0))) (m) 14 (nI (0))) (m) 15 (nI (0))) (m + 9) (p1) = B p1 := (by rw [u2_ne _ _ _ _ (by omega), u2_ne _ _ _ _ (by omega), u2_ne _ _ _ _ (by omega)]; exact (hc5_3 _ _ (by omega)).trans (hB p1 (by omega)))
            refine X_aload_n C 0 (D (70, .aload_n 0, 1) (mg 37 rfl)) rfl rfl ?_
            refine X_get (v := .ref (wA w (m + 9))) C (m) 10 (by omega) hsm rfl rfl (by decide) inX8 fX8_39 rfl (D (71, .getfield 39, 3) (mg 38 rfl)) rfl ?_
            refine X_aload_n C 0 (D (74, .aload_n 0, 1) (mg 39 rfl)) rfl rfl ?_
            refine X_get (v := .int ((u2 (u2 (u2 hp5 (m) 13 (nI (0))) (m) 14 (nI (0))) (m) 15 (nI (0))) (m) 12)) C (m) 12 (by omega) hsm rfl rfl (by decide) inX8 fX8_250 rfl (D (75, .getfield 250, 3) (mg 40 rfl)) rfl ?_
            refine X_ti (y := nI (p1)) (((((u2_i _ _ _ _ (by omega))).trans (u2_i _ _ _ _ (by omega))).trans (u2_i _ _ _ _ (by omega))).trans hc5_2) ?_
            refine X_iald (v := (u2 (u2 (u2 hp5 (m) 13 (nI (0))) (m) 14 (nI (0))) (m) 15 (nI (0))) (m + 9) (p1)) C (m + 9) (by omega) hs9 (vp_in_nI (by omega) (by omega)) (D (78, .iaload, 1) (mg 41 rfl)) (by rw [nI_clamp (by omega)]) ?_
            refine X_istore_n (ls' := [some (.ref (wA w (m))), some (.int (nI (f0))), some (.int ((u2 (u2 (u2 hp5 (m) 13 (nI (0))) (m) 14 (nI (0))) (m) 15 (nI (0))) (m + 9) (p1))), none, none]) C 2 (D (79, .istore_n 2, 1) (mg 42 rfl)) rfl (Nat.le_of_ble_eq_true rfl) rfl ?_
            refine X_aload_n C 0 (D (80, .aload_n 0, 1) (mg 43 rfl)) rfl rfl ?_
            refine X_iload_n C 2 (D (81, .iload_n 2, 1) (mg 44 rfl)) rfl rfl ?_
            refine X_cS (As := [.int ((u2 (u2 (u2 hp5 (m) 13 (nI (0))) (m) 14 (nI (0))) (m) 15 (nI (0))) (m + 9) (p1))]) (st := [.ref (wA w (m))]) C (post := _) (ct_X8_isSmall hw ((u2 (u2 (u2 hp5 (m) 13 (nI (0))) (m) 14 (nI (0))) (m) 15 (nI (0))) (m + 9) (p1)) (u2 (u2 (u2 hp5 (m) 13 (nI (0))) (m) 14 (nI (0))) (m) 15 (nI (0))) g) kX8_262 (by decide) (by decide) rfl rfl (Nat.le_of_ble_eq_true rfl) (D (82, .invokestatic 262, 3) (mg 45 rfl)) rfl (fun v75 H73 G74 hv75 => ?_)
            obtain ⟨rfl, rfl, rfl⟩ := hv75
            show X k w _ 85 [some (.ref (wA w (m))), some (.int (nI (f0))), some (.int ((u2 (u2 (u2 hp5 (m) 13 (nI (0))) (m) 14 (nI (0))) (m) 15 (nI (0))) (m + 9) (p1))), none, none] [.int (if 97 ≤ ((u2 (u2 (u2 hp5 (m) 13 (nI (0))) (m) 14 (nI (0))) (m) 15 (nI (0))) (m + 9) (p1)).toInt ∧ ((u2 (u2 (u2 hp5 (m) 13 (nI (0))) (m) 14 (nI (0))) (m) 15 (nI (0))) (m + 9) (p1)).toInt ≤ 122 then 1 else 0), .ref (wA w (m))] (u2 (u2 (u2 hp5 (m) 13 (nI (0))) (m) 14 (nI (0))) (m) 15 (nI (0))) g
            refine X_if_eq (tgt := 92) C (D (85, .ifCond .eq 7, 3) (mg 46 rfl)) (by decide) (fun q76 => ?_) (fun q76 => ?_)
            · skip
              have q76 : ¬ (97 ≤ ((u2 (u2 (u2 hp5 (m) 13 (nI (0))) (m) 14 (nI (0))) (m) 15 (nI (0))) (m + 9) (p1)).toInt ∧ ((u2 (u2 (u2 hp5 (m) 13 (nI (0))) (m) 14 (nI (0))) (m) 15 (nI (0))) (m + 9) (p1)).toInt ≤ 122) := bz0.mp q76
              have hLe := isLe_f (x := B p1) (by rw [← hby]; exact q76)
              refine X_iload_n C 2 (D (92, .iload_n 2, 1) (mg 49 rfl)) rfl rfl ?_
              refine X_cS (As := [.int ((u2 (u2 (u2 hp5 (m) 13 (nI (0))) (m) 14 (nI (0))) (m) 15 (nI (0))) (m + 9) (p1))]) (st := [.ref (wA w (m))]) C (post := _) (ct_X8_isFigure hw ((u2 (u2 (u2 hp5 (m) 13 (nI (0))) (m) 14 (nI (0))) (m) 15 (nI (0))) (m + 9) (p1)) (u2 (u2 (u2 hp5 (m) 13 (nI (0))) (m) 14 (nI (0))) (m) 15 (nI (0))) g) kX8_265 (by decide) (by decide) rfl rfl (Nat.le_of_ble_eq_true rfl) (D (93, .invokestatic 265, 3) (mg 50 rfl)) rfl (fun v79 H77 G78 hv79 => ?_)
              obtain ⟨rfl, rfl, rfl⟩ := hv79
              show X k w _ 96 [some (.ref (wA w (m))), some (.int (nI (f0))), some (.int ((u2 (u2 (u2 hp5 (m) 13 (nI (0))) (m) 14 (nI (0))) (m) 15 (nI (0))) (m + 9) (p1))), none, none] [.int (if 48 ≤ ((u2 (u2 (u2 hp5 (m) 13 (nI (0))) (m) 14 (nI (0))) (m) 15 (nI (0))) (m + 9) (p1)).toInt ∧ ((u2 (u2 (u2 hp5 (m) 13 (nI (0))) (m) 14 (nI (0))) (m) 15 (nI (0))) (m + 9) (p1)).toInt ≤ 57 then 1 else 0), .ref (wA w (m))] (u2 (u2 (u2 hp5 (m) 13 (nI (0))) (m) 14 (nI (0))) (m) 15 (nI (0))) g
              refine X_if_eq (tgt := 103) C (D (96, .ifCond .eq 7, 3) (mg 51 rfl)) (by decide) (fun q80 => ?_) (fun q80 => ?_)
              · skip
                have q80 : ¬ (48 ≤ ((u2 (u2 (u2 hp5 (m) 13 (nI (0))) (m) 14 (nI (0))) (m) 15 (nI (0))) (m + 9) (p1)).toInt ∧ ((u2 (u2 (u2 hp5 (m) 13 (nI (0))) (m) 14 (nI (0))) (m) 15 (nI (0))) (m + 9) (p1)).toInt ≤ 57) := bz0.mp q80
                have hFi := isFi_f (x := B p1) (by rw [← hby]; exact q80)
                refine X_iload_n C 2 (D (103, .iload_n 2, 1) (mg 54 rfl)) rfl rfl ?_
                refine X_bipush (v := nI (59)) C (D (104, .bipush 59, 2) (mg 55 rfl)) (by decide) ?_
                refine X_icmp_ne (tgt := 113) C (D (106, .if_icmp .ne 7, 3) (mg 56 rfl)) (by decide) (fun q81 => ?_) (fun q81 => ?_)
                · skip
                  have h59 : ¬ B p1 = nI 59 := (by rw [← hby]; exact q81)
                  refine X_iconst (v := nI (4)) C (D (113, .iconst 4, 1) (mg 59 rfl)) (by decide) ?_
                  refine X_eq (ls' := [some (.ref (wA w (m))), some (.int (nI (f0))), some (.int ((u2 (u2 (u2 hp5 (m) 13 (nI (0))) (m) 14 (nI (0))) (m) 15 (nI (0))) (m + 9) (p1))), none, none]) (st' := [.int (nI (tY B p1)), .ref (wA w (m))]) (h' := (u2 (u2 (u2 hp5 (m) 13 (nI (0))) (m) 14 (nI (0))) (m) 15 (nI (0)))) (g' := g) rfl (by rw [ty_4 hLe hFi h59]) rfl rfl ?_
                  exact jn114 ((u2 (u2 (u2 hp5 (m) 13 (nI (0))) (m) 14 (nI (0))) (m) 15 (nI (0)))) (p1) ((u2 (u2 (u2 hp5 (m) 13 (nI (0))) (m) 14 (nI (0))) (m) 15 (nI (0))) (m + 9) (p1)) (by omega) (by omega) (((((u2_i _ _ _ _ (by omega))).trans (u2_i _ _ _ _ (by omega))).trans (u2_i _ _ _ _ (by omega))).trans hc5_2) (fun q i z => by rw [u2_ne _ _ _ _ (by omega), u2_ne _ _ _ _ (by omega), u2_ne _ _ _ _ (by omega)]; exact hc5_3 q i z) hrx ((u2_s _ _ _ _))
                · skip
                  have h59 : B p1 = nI 59 := (by rw [← hby]; exact q81)
                  refine X_iconst (v := nI (3)) C (D (109, .iconst 3, 1) (mg 57 rfl)) (by decide) ?_
                  refine X_goto (tgt := 114) C (D (110, .goto 4, 3) (mg 58 rfl)) (by decide) ?_
                  refine X_eq (ls' := [some (.ref (wA w (m))), some (.int (nI (f0))), some (.int ((u2 (u2 (u2 hp5 (m) 13 (nI (0))) (m) 14 (nI (0))) (m) 15 (nI (0))) (m + 9) (p1))), none, none]) (st' := [.int (nI (tY B p1)), .ref (wA w (m))]) (h' := (u2 (u2 (u2 hp5 (m) 13 (nI (0))) (m) 14 (nI (0))) (m) 15 (nI (0)))) (g' := g) rfl (by rw [ty_3 hLe hFi h59]) rfl rfl ?_
                  exact jn114 ((u2 (u2 (u2 hp5 (m) 13 (nI (0))) (m) 14 (nI (0))) (m) 15 (nI (0)))) (p1) ((u2 (u2 (u2 hp5 (m) 13 (nI (0))) (m) 14 (nI (0))) (m) 15 (nI (0))) (m + 9) (p1)) (by omega) (by omega) (((((u2_i _ _ _ _ (by omega))).trans (u2_i _ _ _ _ (by omega))).trans (u2_i _ _ _ _ (by omega))).trans hc5_2) (fun q i z => by rw [u2_ne _ _ _ _ (by omega), u2_ne _ _ _ _ (by omega), u2_ne _ _ _ _ (by omega)]; exact hc5_3 q i z) hrx ((u2_s _ _ _ _))
              · skip
                have q80 : (48 ≤ ((u2 (u2 (u2 hp5 (m) 13 (nI (0))) (m) 14 (nI (0))) (m) 15 (nI (0))) (m + 9) (p1)).toInt ∧ ((u2 (u2 (u2 hp5 (m) 13 (nI (0))) (m) 14 (nI (0))) (m) 15 (nI (0))) (m + 9) (p1)).toInt ≤ 57) := bz1.mp q80
                have hFi := isFi_t (x := B p1) (by rw [← hby]; exact q80)
                refine X_iconst (v := nI (2)) C (D (99, .iconst 2, 1) (mg 52 rfl)) (by decide) ?_
                refine X_goto (tgt := 114) C (D (100, .goto 14, 3) (mg 53 rfl)) (by decide) ?_
                refine X_eq (ls' := [some (.ref (wA w (m))), some (.int (nI (f0))), some (.int ((u2 (u2 (u2 hp5 (m) 13 (nI (0))) (m) 14 (nI (0))) (m) 15 (nI (0))) (m + 9) (p1))), none, none]) (st' := [.int (nI (tY B p1)), .ref (wA w (m))]) (h' := (u2 (u2 (u2 hp5 (m) 13 (nI (0))) (m) 14 (nI (0))) (m) 15 (nI (0)))) (g' := g) rfl (by rw [ty_2 hLe hFi]) rfl rfl ?_
                exact jn114 ((u2 (u2 (u2 hp5 (m) 13 (nI (0))) (m) 14 (nI (0))) (m) 15 (nI (0)))) (p1) ((u2 (u2 (u2 hp5 (m) 13 (nI (0))) (m) 14 (nI (0))) (m) 15 (nI (0))) (m + 9) (p1)) (by omega) (by omega) (((((u2_i _ _ _ _ (by omega))).trans (u2_i _ _ _ _ (by omega))).trans (u2_i _ _ _ _ (by omega))).trans hc5_2) (fun q i z => by rw [u2_ne _ _ _ _ (by omega), u2_ne _ _ _ _ (by omega), u2_ne _ _ _ _ (by omega)]; exact hc5_3 q i z) hrx ((u2_s _ _ _ _))
            · skip
              have q76 : (97 ≤ ((u2 (u2 (u2 hp5 (m) 13 (nI (0))) (m) 14 (nI (0))) (m) 15 (nI (0))) (m + 9) (p1)).toInt ∧ ((u2 (u2 (u2 hp5 (m) 13 (nI (0))) (m) 14 (nI (0))) (m) 15 (nI (0))) (m + 9) (p1)).toInt ≤ 122) := bz1.mp q76
              have hLe := isLe_t (x := B p1) (by rw [← hby]; exact q76)
              refine X_iconst (v := nI (1)) C (D (88, .iconst 1, 1) (mg 47 rfl)) (by decide) ?_
              refine X_goto (tgt := 114) C (D (89, .goto 25, 3) (mg 48 rfl)) (by decide) ?_
              refine X_eq (ls' := [some (.ref (wA w (m))), some (.int (nI (f0))), some (.int ((u2 (u2 (u2 hp5 (m) 13 (nI (0))) (m) 14 (nI (0))) (m) 15 (nI (0))) (m + 9) (p1))), none, none]) (st' := [.int (nI (tY B p1)), .ref (wA w (m))]) (h' := (u2 (u2 (u2 hp5 (m) 13 (nI (0))) (m) 14 (nI (0))) (m) 15 (nI (0)))) (g' := g) rfl (by rw [ty_1 hLe]) rfl rfl ?_
              exact jn114 ((u2 (u2 (u2 hp5 (m) 13 (nI (0))) (m) 14 (nI (0))) (m) 15 (nI (0)))) (p1) ((u2 (u2 (u2 hp5 (m) 13 (nI (0))) (m) 14 (nI (0))) (m) 15 (nI (0))) (m + 9) (p1)) (by omega) (by omega) (((((u2_i _ _ _ _ (by omega))).trans (u2_i _ _ _ _ (by omega))).trans (u2_i _ _ _ _ (by omega))).trans hc5_2) (fun q i z => by rw [u2_ne _ _ _ _ (by omega), u2_ne _ _ _ _ (by omega), u2_ne _ _ _ _ (by omega)]; exact hc5_3 q i z) hrx ((u2_s _ _ _ _))
          · skip
            have q72 : (p1) = (n) := by have z := (nI_eq (a := (p1)) (b := (n)) (by omega) (by omega)).mp q72; omega
            have hfin := tk_0 hrx (by omega)
            exact X_vret C (D (69, .return_, 1) (mg 36 rfl)) ⟨rfl, (fun q i z => by rw [u2_ne _ _ _ _ (by omega), u2_ne _ _ _ _ (by omega), u2_ne _ _ _ _ (by omega)]; exact hc5_3 q i z), by rw [hrx]; exact (((((u2_i _ _ _ _ (by omega))).trans (u2_i _ _ _ _ (by omega))).trans (u2_i _ _ _ _ (by omega))).trans hc5_2), by rw [hfin.1, hrx, Nat.sub_self]; exact ((((u2_i _ _ _ _ (by omega))).trans (u2_i _ _ _ _ (by omega))).trans (u2_s _ _ _ _)), by rw [hfin.2]; exact (((u2_i _ _ _ _ (by omega))).trans (u2_s _ _ _ _)), fun u_ => absurd (hfin.2.symm.trans u_) (by decide)⟩
        · skip
          have hrn : rn isSp B n (p1 + 1) = rn isSp B n f0 := (rn_step (by omega) (isSp_t (by rw [← hB p1 (by omega), ← hc5_3 (m + 9) p1 (by omega)]; exact q71))).symm.trans hc5_4
          refine X_aload_n C 0 (D (30, .aload_n 0, 1) (mg 15 rfl)) rfl rfl ?_
          refine X_dup C (D (31, .dup, 1) (mg 16 rfl)) rfl ?_
          refine X_get (v := .int (hp5 (m) 12)) C (m) 12 (by omega) hsm rfl rfl (by decide) inX8 fX8_250 rfl (D (32, .getfield 250, 3) (mg 17 rfl)) rfl ?_
          refine X_ti (y := nI (p1)) (hc5_2) ?_
          refine X_iconst (v := nI (1)) C (D (35, .iconst 1, 1) (mg 18 rfl)) (by decide) ?_
          refine X_iadd C (D (36, .iadd, 1) (mg 19 rfl)) ?_
          refine X_ti (y := nI (p1 + 1)) (nI_add (p1) (1)) ?_
          refine X_putI C (m) 12 tyX8 tyX8_ok nmX8 (by omega) hsm rfl rfl (by decide) inX8 fX8_250 rfl rfl (by decide +kernel) (D (37, .putfield 250, 3) (mg 20 rfl)) ?_
          refine X_goto (tgt := 5) C (D (40, .goto (-35), 3) (mg 21 rfl)) (by decide) ?_
          refine X_eq (ls' := [some (.ref (wA w (m))), some (.int (nI (f0))), none, none, none]) (st' := []) (h' := (u2 hp5 (m) 12 (nI (p1 + 1)))) (g' := g) rfl rfl rfl rfl ?_
          exact ih5 (p1 + 1) ((u2 hp5 (m) 12 (nI (p1 + 1)))) (by omega) (by omega) ((u2_s _ _ _ _)) (fun q i z => by rw [u2_ne _ _ _ _ (by omega)]; exact hc5_3 q i z) hrn (by omega)
  refine X_eq (ls' := [some (.ref (wA w (m))), some (.int (nI (f0))), none, none, none]) (st' := []) (h' := (u2 h (m) 12 (nI (f0)))) (g' := g) rfl rfl rfl rfl ?_
  exact lp5 _ (f0) ((u2 h (m) 12 (nI (f0)))) (by omega) (by omega) ((u2_s _ _ _ _)) (fun q i z => by rw [u2_ne _ _ _ _ (by omega)]) rfl (Nat.le_refl _)
