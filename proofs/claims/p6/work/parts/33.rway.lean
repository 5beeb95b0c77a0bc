/-! THE REFERENCE, 16: the way: what its rows hold -/
theorem pk_sh1 {n k : Nat} (hn : n < 2 ^ 31) (hk : k < 31) : nI n >>> (nI k &&& 31) = nI (n / 2 ^ k) := by
  have H : ∀ k, k < 31 → ((nI k &&& 31).toBitVec.smod 32).toNat = k := by decide
  exact pk_shrN hn (nI k &&& 31) k (H k hk)
theorem nI_and1 (n : Nat) : nI n &&& nI 1 = nI (n % 2) := by
  have h : nI n &&& nI 1 = nI (n &&& 1) := by
    apply Int32.toBitVec_inj.mp
    show BitVec.ofNat 32 n &&& BitVec.ofNat 32 1 = BitVec.ofNat 32 (n &&& 1)
    exact (BitVec.ofNat_and ..).symm
  rw [h, Nat.and_one_is_mod]
theorem has_n {K j : Nat} (hK : K < 2 ^ 31) (hj : j < 31) : ((nI K >>> (nI j &&& 31)) &&& nI 1 = nI 1) ↔ K / 2 ^ j % 2 = 1 := by
  rw [pk_sh1 hK hj, nI_and1]
  exact nI_eq (by omega) (by omega)
/-- how many of the first j bits of K are set -/
def bs (K : Nat) : Nat → Nat
  | 0 => 0
  | j + 1 => bs K j + K / 2 ^ j % 2
theorem bs_mono (K : Nat) {i : Nat} : ∀ j, i ≤ j → bs K i ≤ bs K j
  | 0, h => by rw [show i = 0 by omega]; exact Nat.le_refl _
  | j + 1, h => by
    rcases Nat.lt_or_ge i (j + 1) with q | q
    · have := bs_mono K j (i := i) (by omega)
      simp only [bs]; omega
    · rw [show i = j + 1 by omega]; exact Nat.le_refl _
theorem dv_0 {K i j : Nat} (h : K / 2 ^ i = 0) (hij : i ≤ j) : K / 2 ^ j = 0 := by
  have h1 : K < 2 ^ i := by
    rcases Nat.lt_or_ge K (2 ^ i) with q | q
    · exact q
    · have := Nat.div_pos q (Nat.two_pow_pos i); omega
  exact Nat.div_eq_of_lt (Nat.lt_of_lt_of_le h1 (Nat.pow_le_pow_right (by omega) hij))
theorem bs_stab {K i : Nat} (h : K / 2 ^ i = 0) : ∀ j, i ≤ j → bs K j = bs K i
  | 0, q => by rw [show i = 0 by omega]
  | j + 1, q => by
    rcases Nat.lt_or_ge i (j + 1) with z | z
    · have := bs_stab h j (by omega)
      have z2 := dv_0 h (show i ≤ j by omega)
      simp only [bs]
      rw [z2]
      omega
    · rw [show i = j + 1 by omega]
theorem dv_s (K j : Nat) : K / 2 ^ j / 2 = K / 2 ^ (j + 1) := by
  rw [Nat.div_div_eq_div_mul, ← Nat.pow_succ]
/-- the set behind having come to c -/
def cmN (T : Nat → Int32) (c : Int32) : Nat → Nat → Nat
  | 0, S => S
  | k + 1, S => if T k = c then cmN T c k S ||| 2 ^ k else cmN T c k S
theorem or_n : ∀ a, a < 32 → ∀ k, k < 5 → (nI a ||| (nI 1 <<< (nI k &&& 31)) = nI (a ||| 2 ^ k) ∧ a ||| 2 ^ k < 32) := by decide +kernel
theorem or_0 : ∀ a, a < 32 → nI a ||| nI 0 = nI a := by decide +kernel
theorem cm_ge (T : Nat → Int32) (c : Int32) (S : Nat) : ∀ n, S ≤ cmN T c n S
  | 0 => Nat.le_refl _
  | n + 1 => by
    have := cm_ge T c S n
    simp only [cmN]
    split
    · exact Nat.le_trans this Nat.left_le_or
    · exact this
theorem cm_lt {N : Nat} (T : Nat → Int32) (c : Int32) {S : Nat} (hS : S < 2 ^ N) : ∀ n, n ≤ N → cmN T c n S < 2 ^ N
  | 0, _ => hS
  | n + 1, h => by
    have := cm_lt T c hS n (by omega)
    simp only [cmN]
    split
    · exact Nat.or_lt_two_pow this (Nat.pow_lt_pow_right (by omega) (by omega))
    · exact this
theorem cm_bit (T : Nat → Int32) (c : Int32) (S : Nat) {k : Nat} (hT : T k = c) : ∀ n, k < n → (cmN T c n S).testBit k = true
  | 0, h => by omega
  | n + 1, h => by
    simp only [cmN]
    by_cases e : k = n
    · subst e
      rw [if_pos hT, Nat.testBit_or, Nat.testBit_two_pow_self, Bool.or_true]
    · have := cm_bit T c S hT n (by omega)
      split
      · rw [Nat.testBit_or, this, Bool.true_or]
      · exact this
def CM (T : Nat → Int32) (N e t : Nat) : Nat := cmN T (nI t) N e
theorem bit_0 : ∀ N, N < 6 → ∀ S, S < 32 → S < p2 N - 1 → ((List.range N).any fun k => !S.testBit k) = true := by decide +kernel
theorem bit_e {N S : Nat} (hN : N < 6) (hS : S < p2 N - 1) : ∃ k, k < N ∧ S.testBit k = false := by
  have h32 := (p2_e N hN).2.1
  have := bit_0 N hN S (by omega) hS
  obtain ⟨k, hk, e⟩ := List.any_eq_true.mp this
  exact ⟨k, List.mem_range.mp hk, by simpa using e⟩
def stp (c t : Nat) : Nat := if t / 5 < c / 5 then 0 else if c / 5 < t / 5 then 2 else if c % 5 < t % 5 then 1 else 3
def dst (c t : Nat) : Nat := (c / 5 - t / 5) + (t / 5 - c / 5) + (c % 5 - t % 5) + (t % 5 - c % 5)
theorem gr_1 : ∀ c, c < 25 → ∀ t, t < 25 → c ≠ t → (stp c t < 4 ∧ bsN c (stp c t) < 25 ∧ dst (bsN c (stp c t)) t + 1 = dst c t) := by decide +kernel
theorem gr_2 : ∀ c, c < 25 → ∀ t, t < 25 → dst c t ≤ 8 := by decide +kernel
def nb0 (t : Nat) : Nat := if t % 5 < 4 then 1 else 3
theorem gr_3 : ∀ t, t < 25 → (nb0 t < 4 ∧ bsN t (nb0 t) < 25 ∧ bsN t (nb0 t) ≠ t) := by decide +kernel
theorem gr_4 : ∀ c, c < 25 → ∀ i, i < 4 → bsN c i < 25 → bsN c i ≠ c := by decide +kernel
def sat (V : Nat → Nat) (T : Nat → Int32) (N e c i : Nat) : Prop := bsN c i < 25 → V (25 * e + c) ≤ 1 + V (25 * CM T N e (bsN c i) + bsN c i)
def wit (V : Nat → Nat) (T : Nat → Int32) (N e c : Nat) : Prop := ∃ i, i < 4 ∧ bsN c i < 25 ∧ 1 + V (25 * CM T N e (bsN c i) + bsN c i) ≤ V (25 * e + c)
def stl (V : Nat → Nat) (T : Nat → Int32) (N e c : Nat) : Prop := V (25 * e + c) ≤ 10 * (p2 N - 1 - e) ∧ (e = p2 N - 1 ∨ ∃ i, i < 4 ∧ bsN c i < 25 ∧ V (25 * e + c) = 1 + V (25 * CM T N e (bsN c i) + bsN c i))
theorem wy_bd {V : Nat → Nat} {T : Nat → Int32} {N e : Nat} (hN : N < 6) (he : e < p2 N - 1) (hT : ∀ k, k < N → ∃ t, t < 25 ∧ T k = nI t) (hst : ∀ e', e < e' → e' ≤ p2 N - 1 → ∀ c, c < 25 → V (25 * e' + c) ≤ 10 * (p2 N - 1 - e')) (hsat : ∀ c, c < 25 → ∀ i, i < 4 → sat V T N e c i) : ∀ c, c < 25 → V (25 * e + c) ≤ 10 * (p2 N - 1 - e) := by
  obtain ⟨k, hk, hb⟩ := bit_e hN he
  obtain ⟨t, ht, hTk⟩ := hT k hk
  have hp := p2_e N hN
  have cmU : ∀ u, CM T N e u ≤ p2 N - 1 ∧ e ≤ CM T N e u := fun u => by
    have h1 : CM T N e u < 2 ^ N := cm_lt T (nI u) (show e < 2 ^ N by have : p2 N = 2 ^ N := rfl; omega) N (Nat.le_refl _)
    have h2 : e ≤ CM T N e u := cm_ge T (nI u) e N
    have : p2 N = 2 ^ N := rfl
    omega
  have up : ∀ u, u < 25 → CM T N e u ≠ e → V (25 * CM T N e u + u) + 10 ≤ 10 * (p2 N - 1 - e) := fun u hu hne => by
    have h1 := cmU u
    have h2 := hst (CM T N e u) (by omega) h1.1 u hu
    omega
  have hct : CM T N e t ≠ e := fun z => by
    have h1 : (CM T N e t).testBit k = true := cm_bit T (nI t) e hTk N hk
    rw [z, hb] at h1
    cases h1
  have A : ∀ d c, c < 25 → c ≠ t → dst c t ≤ d → V (25 * e + c) + 10 ≤ d + 10 * (p2 N - 1 - e) := by
    intro d
    induction d with
    | zero =>
      intro c hc hne hd
      have := (gr_1 c hc t ht hne).2.2
      omega
    | succ d ih =>
      intro c hc hne hd
      obtain ⟨g1, g2, g3⟩ := gr_1 c hc t ht hne
      have hs := hsat c hc _ g1 g2
      by_cases e1 : CM T N e (bsN c (stp c t)) = e
      · by_cases e2 : bsN c (stp c t) = t
        · rw [e2] at e1; exact absurd e1 hct
        · have := ih _ g2 e2 (by omega)
          rw [e1] at hs
          omega
      · have := up _ g2 e1
        omega
  intro c hc
  by_cases e1 : c = t
  · subst e1
    obtain ⟨g1, g2, g3⟩ := gr_3 c hc
    have hs := hsat c hc _ g1 g2
    by_cases e2 : CM T N e (bsN c (nb0 c)) = e
    · have h8 := gr_2 _ g2 c hc
      have := A 8 _ g2 g3 h8
      rw [e2] at hs
      omega
    · have := up _ g2 e2
      omega
  · have := A 8 c hc e1 (gr_2 c hc t ht)
    omega
theorem wy_st {V : Nat → Nat} {T : Nat → Int32} {N e : Nat} (hN : N < 6) (he : e < p2 N - 1) (hT : ∀ k, k < N → ∃ t, t < 25 ∧ T k = nI t) (hst : ∀ e', e < e' → e' ≤ p2 N - 1 → ∀ c, c < 25 → stl V T N e' c) (hsat : ∀ c, c < 25 → ∀ i, i < 4 → sat V T N e c i) (hw : ∀ c, c < 25 → V (25 * e + c) = 1000000 ∨ wit V T N e c) : ∀ c, c < 25 → stl V T N e c := by
  have hb := wy_bd hN he hT (fun e' h1 h2 c hc => (hst e' h1 h2 c hc).1) hsat
  have hp := p2_e N hN
  intro c hc
  refine ⟨hb c hc, Or.inr ?_⟩
  rcases hw c hc with q | ⟨i, hi, h1, h2⟩
  · have := hb c hc
    omega
  · have := hsat c hc i hi h1
    exact ⟨i, hi, h1, by omega⟩
def sm (V : Nat → Nat) (e : Nat) : Nat → Nat
  | 0 => 0
  | n + 1 => sm V e n + V (25 * e + n)
def vu (V : Nat → Nat) (j v : Nat) : Nat → Nat := fun i => if i = j then v else V i
theorem vu_s (V : Nat → Nat) (j v : Nat) : vu V j v j = v := if_pos rfl
theorem vu_n (V : Nat → Nat) (j v : Nat) {i : Nat} (h : i ≠ j) : vu V j v i = V i := if_neg h
theorem sm_le {V : Nat → Nat} {e c v : Nat} : ∀ n, n ≤ c → sm (vu V (25 * e + c) v) e n = sm V e n
  | 0, _ => rfl
  | n + 1, h => by
    simp only [sm]
    rw [sm_le n (by omega), vu_n _ _ _ (by omega)]
theorem sm_lt {V : Nat → Nat} {e c v : Nat} (hv : v < V (25 * e + c)) : ∀ n, c < n → sm (vu V (25 * e + c) v) e n < sm V e n
  | 0, h => by omega
  | n + 1, h => by
    simp only [sm]
    by_cases q : n = c
    · subst q
      rw [sm_le n (Nat.le_refl _), vu_s]; omega
    · rw [vu_n _ _ _ (by omega)]
      have := sm_lt hv n (by omega)
      omega
theorem vu_le {V : Nat → Nat} {j v : Nat} (hv : v ≤ V j) (i : Nat) : vu V j v i ≤ V i := by
  unfold vu
  split
  · rename_i e; rw [e]; exact hv
  · exact Nat.le_refl _
theorem wit_u {V : Nat → Nat} {T : Nat → Int32} {N e c i : Nat} (hc : c < 25) (hi : i < 4) (hb : bsN c i < 25) (hlt : 1 + V (25 * CM T N e (bsN c i) + bsN c i) < V (25 * e + c)) {c2 : Nat} (hc2 : c2 < 25) (h : V (25 * e + c2) = 1000000 ∨ wit V T N e c2) : vu V (25 * e + c) (1 + V (25 * CM T N e (bsN c i) + bsN c i)) (25 * e + c2) = 1000000 ∨ wit (vu V (25 * e + c) (1 + V (25 * CM T N e (bsN c i) + bsN c i))) T N e c2 := by
  have hne := gr_4 c hc i hi hb
  by_cases q : c2 = c
  · subst q
    refine Or.inr ⟨i, hi, hb, ?_⟩
    rw [vu_s, vu_n _ _ _ (by omega)]
    exact Nat.le_refl _
  · rcases h with h | ⟨i2, g1, g2, g3⟩
    · exact Or.inl (by rw [vu_n _ _ _ (by omega)]; exact h)
    · refine Or.inr ⟨i2, g1, g2, ?_⟩
      rw [vu_n (i := 25 * e + c2) _ _ _ (by omega)]
      have := vu_le (V := V) (j := 25 * e + c) (v := 1 + V (25 * CM T N e (bsN c i) + bsN c i)) (by omega) (25 * CM T N e (bsN c2 i2) + bsN c2 i2)
      omega
set_option maxHeartbeats 4000000 in
set_option maxRecDepth 100000 in
theorem ct_X8_bits {l : Launch} {w : Kw} (hw : wOk w) {K : Nat} (hK : K < 33554432) (h : xI) (g : xJ)  : Ct l w yX8_bits cX8_bits 3 (some .int) 0 0 [.int (nI (K))] h g (px (some (.int (nI (bs K 25)))) h g) := by
  refine Ct_of (ls := [some (.int (nI (K))), none, none]) (by decide) hw (Nat.le_of_ble_eq_true rfl) rfl (fun k hkl C => ?_)
  have C : Cx k w cX8_bits RX8 3 (some .int) 0 0 := C
  have D := dtX8_bits
  subst hkl
  refine X_iconst (v := nI (0)) C (D (0, .iconst 0, 1) (mg 0 rfl)) (by decide) ?_
  refine X_istore_n (ls' := [some (.int (nI (K))), some (.int (nI (0))), none]) C 1 (D (1, .istore_n 1, 1) (mg 1 rfl)) rfl (Nat.le_of_ble_eq_true rfl) rfl ?_
  refine X_iload_n C 0 (D (2, .iload_n 0, 1) (mg 2 rfl)) rfl rfl ?_
  refine X_istore_n (ls' := [some (.int (nI (K))), some (.int (nI (0))), some (.int (nI (K)))]) C 2 (D (3, .istore_n 2, 1) (mg 3 rfl)) rfl (Nat.le_of_ble_eq_true rfl) rfl ?_
  have lp4 : ∀ (nn4 : Nat) (j : Nat) (n1 : Nat) (r : Nat), (n1 ≤ 100) → (j ≤ 25) → (r = K / 2 ^ j) → (n1 = bs K j) → (n1 ≤ j) → (r ≤ K) → r + 1 ≤ nn4 → X k w (Zq k w (px (some (.int (nI (bs K 25)))) h g)) 4 [some (.int (nI (K))), some (.int (nI (n1))), some (.int (nI (r)))] [] h g := by
    intro nn4
    induction nn4 with
    | zero => intro j n1 r hc4_0 hc4_1 hc4_2 hc4_3 hc4_4 hc4_5 hz; exact absurd hz (by omega)
    | succ nn4 ih4 =>
      intro j n1 r hc4_0 hc4_1 hc4_2 hc4_3 hc4_4 hc4_5 hz4
      refine X_iload_n C 2 (D (4, .iload_n 2, 1) (mg 4 rfl)) rfl rfl ?_
      refine X_if_le (tgt := 21) C (D (5, .ifCond .le 16, 3) (mg 5 rfl)) (by decide) (fun q1 => ?_) (fun q1 => ?_)
      · skip
        have q1 : (r) ≤ (0) := by have z := (nI_leI (a := (r)) (b := (0)) (by omega) (by omega)).mp q1; omega
        refine X_iload_n C 1 (D (21, .iload_n 1, 1) (mg 17 rfl)) rfl rfl ?_
        exact X_iret C (D (22, .ireturn, 1) (mg 18 rfl)) ⟨by rw [hc4_3, bs_stab (K := K) (i := j) (by omega) 25 (by omega)], rfl, rfl⟩
      · skip
        have q1 : (r) > (0) := by have z : ¬ ((r) ≤ (0)) := fun u => q1 ((nI_leI (a := (r)) (b := (0)) (by omega) (by omega)).mpr u); omega
        have hj25 : j < 25 := by (rcases Nat.lt_or_ge j 25 with z | z; exact z; have z1 := Nat.div_eq_of_lt (show K < 2 ^ 25 by omega); have z2 := dv_0 z1 z; omega)
        refine X_iload_n C 1 (D (8, .iload_n 1, 1) (mg 6 rfl)) rfl rfl ?_
        refine X_iload_n C 2 (D (9, .iload_n 2, 1) (mg 7 rfl)) rfl rfl ?_
        refine X_iconst (v := nI (1)) C (D (10, .iconst 1, 1) (mg 8 rfl)) (by decide) ?_
        refine X_iand C (D (11, .iand, 1) (mg 9 rfl)) ?_
        refine X_ti (y := nI (r % 2)) (nI_and1 r) ?_
        refine X_iadd C (D (12, .iadd, 1) (mg 10 rfl)) ?_
        refine X_ti (y := nI (n1 + r % 2)) (nI_add (n1) (r % 2)) ?_
        refine X_istore_n (ls' := [some (.int (nI (K))), some (.int (nI (n1 + r % 2))), some (.int (nI (r)))]) C 1 (D (13, .istore_n 1, 1) (mg 11 rfl)) rfl (Nat.le_of_ble_eq_true rfl) rfl ?_
        refine X_iload_n C 2 (D (14, .iload_n 2, 1) (mg 12 rfl)) rfl rfl ?_
        refine X_iconst (v := nI (1)) C (D (15, .iconst 1, 1) (mg 13 rfl)) (by decide) ?_
        refine X_ishr C (D (16, .ishr, 1) (mg 14 rfl)) ?_
        refine X_ti (y := nI (r / 2)) (by rw [pk_sh1 (by omega) (by omega)]) ?_
        refine X_istore_n (ls' := [some (.int (nI (K))), some (.int (nI (n1 + r % 2))), some (.int (nI (r / 2)))]) C 2 (D (17, .istore_n 2, 1) (mg 15 rfl)) rfl (Nat.le_of_ble_eq_true rfl) rfl ?_
        refine X_goto (tgt := 4) C (D (18, .goto (-14), 3) (mg 16 rfl)) (by decide) ?_
        refine X_eq (ls' := [some (.int (nI (K))), some (.int (nI (n1 + r % 2))), some (.int (nI (r / 2)))]) (st' := []) (h' := h) (g' := g) rfl rfl rfl rfl ?_
        exact ih4 (j + 1) (n1 + r % 2) (r / 2) (by omega) (by omega) (by rw [hc4_2]; exact dv_s K j) (by show _ = bs K j + K / 2 ^ j % 2; rw [← hc4_3, ← hc4_2]) (by omega) (by omega) (by omega)
  refine X_eq (ls' := [some (.int (nI (K))), some (.int (nI (0))), some (.int (nI (K)))]) (st' := []) (h' := h) (g' := g) rfl rfl rfl rfl ?_
  exact lp4 _ (0) (0) (K) (by omega) (by omega) (by rw [Nat.pow_zero, Nat.div_one]) rfl (Nat.le_refl _) (by omega) (Nat.le_refl _)
def ltP (m n : Nat) (h h' : xI) : Prop := (∀ q i, q ≠ m + 6 → h' q i = h q i) ∧ ∀ k, k < n → ∃ t, t < 25 ∧ h' (m + 6) k = nI t
theorem ltP_s {m n j : Nat} {h h' : xI} (H : ltP m n h h') (hj : j < 25) : ltP m (n + 1) h (u2 h' (m + 6) n (nI j)) := by
  refine ⟨fun q i z => by rw [u2_ne _ _ _ _ (by omega)]; exact H.1 q i z, fun k z => ?_⟩
  by_cases e : k = n
  · exact ⟨j, hj, u2_at _ _ _ _ ⟨rfl, e⟩⟩
  · rw [u2_ne _ _ _ _ (by omega)]
    exact H.2 k (by omega)
set_option maxHeartbeats 4000000 in
set_option maxRecDepth 100000 in
theorem ct_X8_layTold {l : Launch} {w : Kw} (hw : wOk w) {m : Nat} (hM : shM w m) {K : Nat} (hK : K < 33554432) (h5 : bs K 25 ≤ 5) (h : xI) (g : xJ)  : Ct l w yX8_layTold cX8_layTold 4 (some .int) 1 21 [.ref (wA w (m)), .int (nI (K))] h g (fun v h' _ => v = some (.int (nI (bs K 25))) ∧ ltP m (bs K 25) h h') := by
  refine Ct_of (ls := [some (.ref (wA w (m))), some (.int (nI (K))), none, none]) (by decide) hw (Nat.le_of_ble_eq_true rfl) rfl (fun k hkl C => ?_)
  have C : Cx k w cX8_layTold RX8 4 (some .int) 1 21 := C
  have D := dtX8_layTold
  subst hkl
  have hM0 := hM
  obtain ⟨hm, hsm, hs1, hs2, hs3, hs4, hs5, hs6, hs7, hs8, hs9, hs10, hs11⟩ := hM
  have hM := hM0
  refine X_iconst (v := nI (0)) C (D (0, .iconst 0, 1) (mg 0 rfl)) (by decide) ?_
  refine X_istore_n (ls' := [some (.ref (wA w (m))), some (.int (nI (K))), some (.int (nI (0))), none]) C 2 (D (1, .istore_n 2, 1) (mg 1 rfl)) rfl (Nat.le_of_ble_eq_true rfl) rfl ?_
  refine X_iconst (v := nI (0)) C (D (2, .iconst 0, 1) (mg 2 rfl)) (by decide) ?_
  refine X_istore_n (ls' := [some (.ref (wA w (m))), some (.int (nI (K))), some (.int (nI (0))), some (.int (nI (0)))]) C 3 (D (3, .istore_n 3, 1) (mg 3 rfl)) rfl (Nat.le_of_ble_eq_true rfl) rfl ?_
  have lp4 : ∀ (nn4 : Nat) (n1 : Nat) (j : Nat) (hp4 : xI), (j ≤ 25) → (n1 = bs K j) → (ltP m n1 h hp4) → 26 - j ≤ nn4 → X k w (Zq k w (fun v h' _ => v = some (.int (nI (bs K 25))) ∧ ltP m (bs K 25) h h')) 4 [some (.ref (wA w (m))), some (.int (nI (K))), some (.int (nI (n1))), some (.int (nI (j)))] [] hp4 g := by
    intro nn4
    induction nn4 with
    | zero => intro n1 j hp4 hc4_0 hc4_1 hc4_2 hz; exact absurd hz (by omega)
    | succ nn4 ih4 =>
      intro n1 j hp4 hc4_0 hc4_1 hc4_2 hz4
      refine X_iload_n C 3 (D (4, .iload_n 3, 1) (mg 4 rfl)) rfl rfl ?_
      refine X_bipush (v := nI (25)) C (D (5, .bipush 25, 2) (mg 5 rfl)) (by decide) ?_
      refine X_icmp_ge (tgt := 34) C (D (7, .if_icmp .ge 27, 3) (mg 6 rfl)) (by decide) (fun q1 => ?_) (fun q1 => ?_)
      · skip
        have q1 : (j) ≥ (25) := by have z := (nI_leI (a := (25)) (b := (j)) (by omega) (by omega)).mp q1; omega
        refine X_iload_n C 2 (D (34, .iload_n 2, 1) (mg 19 rfl)) rfl rfl ?_
        exact X_iret C (D (35, .ireturn, 1) (mg 20 rfl)) ⟨by rw [hc4_1, show j = 25 by omega], by rw [← show n1 = bs K 25 from by rw [hc4_1, show j = 25 by omega]]; exact hc4_2⟩
      · skip
        have q1 : (j) < (25) := by have z : ¬ ((25) ≤ (j)) := fun u => q1 ((nI_leI (a := (25)) (b := (j)) (by omega) (by omega)).mpr u); omega
        refine X_iload_n C 1 (D (10, .iload_n 1, 1) (mg 7 rfl)) rfl rfl ?_
        refine X_iload_n C 3 (D (11, .iload_n 3, 1) (mg 8 rfl)) rfl rfl ?_
        refine X_cS (As := [.int (nI (K)), .int (nI (j))]) (st := []) C (post := _) (ct_X8_has hw (nI (K)) (nI (j)) hp4 g) kX8_158 (by decide) (by decide) rfl rfl (Nat.le_of_ble_eq_true rfl) (D (12, .invokestatic 158, 3) (mg 9 rfl)) rfl (fun v4 H2 G3 hv4 => ?_)
        obtain ⟨rfl, rfl, rfl⟩ := hv4
        show X k w _ 15 [some (.ref (wA w (m))), some (.int (nI (K))), some (.int (nI (n1))), some (.int (nI (j)))] [.int (if ((nI (K)) >>> ((nI (j)) &&& 31)) &&& nI 1 = nI 1 then 1 else 0)] hp4 g
        refine X_if_eq (tgt := 28) C (D (15, .ifCond .eq 13, 3) (mg 10 rfl)) (by decide) (fun q5 => ?_) (fun q5 => ?_)
        · skip
          have q5 : ¬ (((nI (K)) >>> ((nI (j)) &&& 31)) &&& nI 1 = nI 1) := bz0.mp q5
          have q5 : K / 2 ^ j % 2 = 0 := by (have z : ¬ (K / 2 ^ j % 2 = 1) := fun u => q5 ((has_n (K := K) (j := j) (by omega) (by omega)).mpr u); omega)
          refine X_iinc (v := nI (j + 1)) (ls' := [some (.ref (wA w (m))), some (.int (nI (K))), some (.int (nI (n1))), some (.int (nI (j + 1)))]) C (D (28, .iinc 3 1, 3) (mg 17 rfl)) rfl (nI_add (j) 1) rfl ?_
          refine X_goto (tgt := 4) C (D (31, .goto (-27), 3) (mg 18 rfl)) (by decide) ?_
          refine X_eq (ls' := [some (.ref (wA w (m))), some (.int (nI (K))), some (.int (nI (n1))), some (.int (nI (j + 1)))]) (st' := []) (h' := hp4) (g' := g) rfl rfl rfl rfl ?_
          exact ih4 (n1) (j + 1) (hp4) (by omega) (by show _ = bs K j + K / 2 ^ j % 2; omega) hc4_2 (by omega)
        · skip
          have q5 : (((nI (K)) >>> ((nI (j)) &&& 31)) &&& nI 1 = nI 1) := bz1.mp q5
          have q5 := (has_n (K := K) (j := j) (by omega) (by omega)).mp q5
          have hb5 : n1 + 1 ≤ 5 := by (have z1 := bs_mono K 25 (i := j + 1) (by omega); have z2 : bs K (j + 1) = bs K j + K / 2 ^ j % 2 := rfl; omega)
          refine X_aload_n C 0 (D (18, .aload_n 0, 1) (mg 11 rfl)) rfl rfl ?_
          refine X_get (v := .ref (wA w (m + 6))) C (m) 7 (by omega) hsm rfl rfl (by decide) inX8 fX8_30 rfl (D (19, .getfield 30, 3) (mg 12 rfl)) rfl ?_
          refine X_iload_n C 2 (D (22, .iload_n 2, 1) (mg 13 rfl)) rfl rfl ?_
          refine X_iload_n C 3 (D (23, .iload_n 3, 1) (mg 14 rfl)) rfl rfl ?_
          refine X_iast (j := n1) C (m + 6) (by omega) hs6 (vp_in_nI (by omega) (by omega)) (D (24, .iastore, 1) (mg 15 rfl)) (nI_clamp (by omega)) ?_
          refine X_iinc (v := nI (n1 + 1)) (ls' := [some (.ref (wA w (m))), some (.int (nI (K))), some (.int (nI (n1 + 1))), some (.int (nI (j)))]) C (D (25, .iinc 2 1, 3) (mg 16 rfl)) rfl (nI_add (n1) 1) rfl ?_
          refine X_iinc (v := nI (j + 1)) (ls' := [some (.ref (wA w (m))), some (.int (nI (K))), some (.int (nI (n1 + 1))), some (.int (nI (j + 1)))]) C (D (28, .iinc 3 1, 3) (mg 17 rfl)) rfl (nI_add (j) 1) rfl ?_
          refine X_goto (tgt := 4) C (D (31, .goto (-27), 3) (mg 18 rfl)) (by decide) ?_
          refine X_eq (ls' := [some (.ref (wA w (m))), some (.int (nI (K))), some (.int (nI (n1 + 1))), some (.int (nI (j + 1)))]) (st' := []) (h' := (u2 hp4 (m + 6) (n1) (nI (j)))) (g' := g) rfl rfl rfl rfl ?_
          exact ih4 (n1 + 1) (j + 1) ((u2 hp4 (m + 6) (n1) (nI (j)))) (by omega) (by show _ = bs K j + K / 2 ^ j % 2; omega) (ltP_s hc4_2 (by omega)) (by omega)
  refine X_eq (ls' := [some (.ref (wA w (m))), some (.int (nI (K))), some (.int (nI (0))), some (.int (nI (0)))]) (st' := []) (h' := h) (g' := g) rfl rfl rfl rfl ?_
  exact lp4 _ (0) (0) (h) (by omega) rfl ⟨fun _ _ _ => rfl, fun k z => by omega⟩ (Nat.le_refl _)
theorem cm_s {T : Nat → Int32} {c : Int32} {k S : Nat} (h : T k = c) : cmN T c k S ||| 2 ^ k = cmN T c (k + 1) S := (if_pos h).symm
theorem cm_k {T : Nat → Int32} {c : Int32} {k S : Nat} (h : ¬ T k = c) : cmN T c k S = cmN T c (k + 1) S := (if_neg h).symm
set_option maxHeartbeats 4000000 in
set_option maxRecDepth 100000 in
theorem ct_X8_come {l : Launch} {w : Kw} (hw : wOk w) {m : Nat} (hM : shM w m) {T : Nat → Int32} {S N : Nat} (hS : S < 32) (c : Int32) (hN : N ≤ 5) (h : xI) (g : xJ) (hT : h (m + 6) = T) : Ct l w yX8_come cX8_come 6 (some .int) 0 0 [.ref (wA w (m)), .int (nI (S)), .int (c), .int (nI (N))] h g (px (some (.int (nI (cmN T c N S)))) h g) := by
  refine Ct_of (ls := [some (.ref (wA w (m))), some (.int (nI (S))), some (.int (c)), some (.int (nI (N))), none, none]) (by decide) hw (Nat.le_of_ble_eq_true rfl) rfl (fun k hkl C => ?_)
  have C : Cx k w cX8_come RX8 6 (some .int) 0 0 := C
  have D := dtX8_come
  subst hkl
  have hM0 := hM
  obtain ⟨hm, hsm, hs1, hs2, hs3, hs4, hs5, hs6, hs7, hs8, hs9, hs10, hs11⟩ := hM
  have hM := hM0
  refine X_iload_n C 1 (D (0, .iload_n 1, 1) (mg 0 rfl)) rfl rfl ?_
  refine X_istore (ls' := [some (.ref (wA w (m))), some (.int (nI (S))), some (.int (c)), some (.int (nI (N))), some (.int (nI (S))), none]) C (D (1, .istore 4, 2) (mg 1 rfl)) (Nat.le_of_ble_eq_true rfl) rfl ?_
  refine X_iconst (v := nI (0)) C (D (3, .iconst 0, 1) (mg 2 rfl)) (by decide) ?_
  refine X_istore (ls' := [some (.ref (wA w (m))), some (.int (nI (S))), some (.int (c)), some (.int (nI (N))), some (.int (nI (S))), some (.int (nI (0)))]) C (D (4, .istore 5, 2) (mg 3 rfl)) (Nat.le_of_ble_eq_true rfl) rfl ?_
  have lp6 : ∀ (nn6 : Nat) (S1 : Nat) (j : Nat), (j ≤ N) → (S1 < 32) → (S1 = cmN T c j S) → 6 - j ≤ nn6 → X k w (Zq k w (px (some (.int (nI (cmN T c N S)))) h g)) 6 [some (.ref (wA w (m))), some (.int (nI (S))), some (.int (c)), some (.int (nI (N))), some (.int (nI (S1))), some (.int (nI (j)))] [] h g := by
    intro nn6
    induction nn6 with
    | zero => intro S1 j hc6_0 hc6_1 hc6_2 hz; exact absurd hz (by omega)
    | succ nn6 ih6 =>
      intro S1 j hc6_0 hc6_1 hc6_2 hz6
      refine X_iload C (D (6, .iload 5, 2) (mg 4 rfl)) rfl ?_
      refine X_iload_n C 3 (D (8, .iload_n 3, 1) (mg 5 rfl)) rfl rfl ?_
      refine X_icmp_ge (tgt := 42) C (D (9, .if_icmp .ge 33, 3) (mg 6 rfl)) (by decide) (fun q1 => ?_) (fun q1 => ?_)
      · skip
        have q1 : (j) ≥ (N) := by have z := (nI_leI (a := (N)) (b := (j)) (by omega) (by omega)).mp q1; omega
        refine X_iload C (D (42, .iload 4, 2) (mg 23 rfl)) rfl ?_
        exact X_iret C (D (44, .ireturn, 1) (mg 24 rfl)) ⟨by rw [hc6_2, show j = N by omega], rfl, rfl⟩
      · skip
        have q1 : (j) < (N) := by have z : ¬ ((N) ≤ (j)) := fun u => q1 ((nI_leI (a := (N)) (b := (j)) (by omega) (by omega)).mpr u); omega
        refine X_iload C (D (12, .iload 4, 2) (mg 7 rfl)) rfl ?_
        refine X_aload_n C 0 (D (14, .aload_n 0, 1) (mg 8 rfl)) rfl rfl ?_
        refine X_get (v := .ref (wA w (m + 6))) C (m) 7 (by omega) hsm rfl rfl (by decide) inX8 fX8_30 rfl (D (15, .getfield 30, 3) (mg 9 rfl)) rfl ?_
        refine X_iload C (D (18, .iload 5, 2) (mg 10 rfl)) rfl ?_
        refine X_iald (v := h (m + 6) (j)) C (m + 6) (by omega) hs6 (vp_in_nI (by omega) (by omega)) (D (20, .iaload, 1) (mg 11 rfl)) (by rw [nI_clamp (by omega)]) ?_
        refine X_iload_n C 2 (D (21, .iload_n 2, 1) (mg 12 rfl)) rfl rfl ?_
        refine X_icmp_ne (tgt := 32) C (D (22, .if_icmp .ne 10, 3) (mg 13 rfl)) (by decide) (fun q2 => ?_) (fun q2 => ?_)
        · skip
          refine X_iconst (v := nI (0)) C (D (32, .iconst 0, 1) (mg 18 rfl)) (by decide) ?_
          refine X_ior C (D (33, .ior, 1) (mg 19 rfl)) ?_
          refine X_ti (y := nI (S1)) (or_0 _ (by omega)) ?_
          refine X_istore (ls' := [some (.ref (wA w (m))), some (.int (nI (S))), some (.int (c)), some (.int (nI (N))), some (.int (nI (S1))), some (.int (nI (j)))]) C (D (34, .istore 4, 2) (mg 20 rfl)) (Nat.le_of_ble_eq_true rfl) rfl ?_
          refine X_iinc (v := nI (j + 1)) (ls' := [some (.ref (wA w (m))), some (.int (nI (S))), some (.int (c)), some (.int (nI (N))), some (.int (nI (S1))), some (.int (nI (j + 1)))]) C (D (36, .iinc 5 1, 3) (mg 21 rfl)) rfl (nI_add (j) 1) rfl ?_
          refine X_goto (tgt := 6) C (D (39, .goto (-33), 3) (mg 22 rfl)) (by decide) ?_
          refine X_eq (ls' := [some (.ref (wA w (m))), some (.int (nI (S))), some (.int (c)), some (.int (nI (N))), some (.int (nI (S1))), some (.int (nI (j + 1)))]) (st' := []) (h' := h) (g' := g) rfl rfl rfl rfl ?_
          exact ih6 (S1) (j + 1) (by omega) (by omega) (by rw [hc6_2]; exact cm_k (by rw [← hT]; assumption)) (by omega)
        · skip
          refine X_iconst (v := nI (1)) C (D (25, .iconst 1, 1) (mg 14 rfl)) (by decide) ?_
          refine X_iload C (D (26, .iload 5, 2) (mg 15 rfl)) rfl ?_
          refine X_ishl C (D (28, .ishl, 1) (mg 16 rfl)) ?_
          refine X_goto (tgt := 33) C (D (29, .goto 4, 3) (mg 17 rfl)) (by decide) ?_
          refine X_ior C (D (33, .ior, 1) (mg 19 rfl)) ?_
          refine X_ti (y := nI (S1 ||| 2 ^ j)) (or_n S1 (by omega) j (by omega)).1 ?_
          refine X_istore (ls' := [some (.ref (wA w (m))), some (.int (nI (S))), some (.int (c)), some (.int (nI (N))), some (.int (nI (S1 ||| 2 ^ j))), some (.int (nI (j)))]) C (D (34, .istore 4, 2) (mg 20 rfl)) (Nat.le_of_ble_eq_true rfl) rfl ?_
          refine X_iinc (v := nI (j + 1)) (ls' := [some (.ref (wA w (m))), some (.int (nI (S))), some (.int (c)), some (.int (nI (N))), some (.int (nI (S1 ||| 2 ^ j))), some (.int (nI (j + 1)))]) C (D (36, .iinc 5 1, 3) (mg 21 rfl)) rfl (nI_add (j) 1) rfl ?_
          refine X_goto (tgt := 6) C (D (39, .goto (-33), 3) (mg 22 rfl)) (by decide) ?_
          refine X_eq (ls' := [some (.ref (wA w (m))), some (.int (nI (S))), some (.int (c)), some (.int (nI (N))), some (.int (nI (S1 ||| 2 ^ j))), some (.int (nI (j + 1)))]) (st' := []) (h' := h) (g' := g) rfl rfl rfl rfl ?_
          exact ih6 (S1 ||| 2 ^ j) (j + 1) (by omega) (or_n S1 (by omega) j (by omega)).2 (by rw [hc6_2]; exact cm_s (by rw [← hT]; assumption)) (by omega)
  refine X_eq (ls' := [some (.ref (wA w (m))), some (.int (nI (S))), some (.int (c)), some (.int (nI (N))), some (.int (nI (S))), some (.int (nI (0)))]) (st' := []) (h' := h) (g' := g) rfl rfl rfl rfl ?_
  exact lp6 _ (S) (0) (by omega) (by omega) rfl (Nat.le_refl _)
