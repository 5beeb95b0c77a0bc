/-! PHASE 3, pure: WAY -/
/-- the least of F i, i < n with P i; 1000, if there is none -/
def mnW (P : Nat → Bool) (F : Nat → Nat) : Nat → Nat
  | 0 => 1000
  | n + 1 => if P n = true then (if F n < mnW P F n then F n else mnW P F n) else mnW P F n
theorem mnW_le {P : Nat → Bool} {F : Nat → Nat} {i : Nat} (hP : P i = true) : ∀ n, i < n → mnW P F n ≤ F i
  | 0, h => by omega
  | n + 1, h => by
    show (if P n = true then (if F n < mnW P F n then F n else mnW P F n) else mnW P F n) ≤ F i
    by_cases e : i = n
    · subst e; rw [if_pos hP]; split <;> omega
    · have := mnW_le (F := F) hP n (by omega)
      split
      · split <;> omega
      · exact this
theorem mnW_ex {P : Nat → Bool} {F : Nat → Nat} : ∀ n, mnW P F n = 1000 ∨ ∃ i, i < n ∧ P i = true ∧ mnW P F n = F i
  | 0 => Or.inl rfl
  | n + 1 => by
    have ih := mnW_ex (P := P) (F := F) n
    have e : mnW P F (n + 1) = (if P n = true then (if F n < mnW P F n then F n else mnW P F n) else mnW P F n) := rfl
    by_cases q : P n = true
    · by_cases q2 : F n < mnW P F n
      · exact Or.inr ⟨n, by omega, q, by rw [e, if_pos q, if_pos q2]⟩
      · rw [if_pos q, if_neg q2] at e
        rcases ih with h | ⟨i, h1, h2, h3⟩
        · exact Or.inl (e.trans h)
        · exact Or.inr ⟨i, by omega, h2, e.trans h3⟩
    · rw [if_neg q] at e
      rcases ih with h | ⟨i, h1, h2, h3⟩
      · exact Or.inl (e.trans h)
      · exact Or.inr ⟨i, by omega, h2, e.trans h3⟩
theorem mnW_c {P : Nat → Bool} {F G : Nat → Nat} : ∀ n, (∀ i, i < n → P i = true → F i = G i) → mnW P F n = mnW P G n
  | 0, _ => rfl
  | n + 1, H => by
    have ih := mnW_c (P := P) (F := F) (G := G) n (fun i hi => H i (by omega))
    show (if P n = true then (if F n < mnW P F n then F n else mnW P F n) else mnW P F n) = (if P n = true then (if G n < mnW P G n then G n else mnW P G n) else mnW P G n)
    rw [ih]
    by_cases q : P n = true
    · rw [if_pos q, if_pos q, H n (by omega) q]
    · rw [if_neg q, if_neg q]
/-- how many bits, of five -/
def cd (S : Nat) : Nat := S % 2 + S / 2 % 2 + S / 4 % 2 + S / 8 % 2 + S / 16 % 2
theorem cl_1 : ∀ S, S < 32 → ∀ i, i < 5 → S.testBit i = true → (clr S i < S ∧ cd (clr S i) + 1 = cd S ∧ (clr S i).testBit i = false) := by decide +kernel
theorem cl_2 : ∀ S, S < 32 → ∀ i, i < 5 → ∀ j, j < 5 → i ≠ j → (clr S i).testBit j = S.testBit j := by decide +kernel
theorem cl_3 : ∀ S, S < 32 → ∀ i, i < 5 → ∀ j, j < 5 → clr (clr S i) j = clr (clr S j) i := by decide +kernel
theorem cd_0 : ∀ S, S < 32 → (cd S ≤ 5 ∧ (cd S = 0 → S = 0)) := by decide +kernel
theorem cd_b : ∀ S, S < 32 → ¬ S = 0 → ((List.range 5).any fun k => S.testBit k) = true := by decide +kernel
theorem sb_e {N S : Nat} (hN : N ≤ 5) (hS : S < 2 ^ N) (h0 : ¬ S = 0) : ∃ k, k < N ∧ S.testBit k = true := by
  have h32 : S < 32 := Nat.lt_of_lt_of_le hS (Nat.pow_le_pow_right (by omega) hN)
  obtain ⟨k, hk, e⟩ := List.any_eq_true.mp (cd_b S h32 h0)
  refine ⟨k, ?_, e⟩
  refine Classical.byContradiction (fun q => ?_)
  have : S < 2 ^ k := Nat.lt_of_lt_of_le hS (Nat.pow_le_pow_right (by omega) (by omega))
  rw [Nat.testBit_lt_two_pow this] at e
  cases e
theorem sb_lt {N S k : Nat} (hS : S < 2 ^ N) (h : S.testBit k = true) : k < N := by
  refine Classical.byContradiction (fun q => ?_)
  have : S < 2 ^ k := Nat.lt_of_lt_of_le hS (Nat.pow_le_pow_right (by omega) (by omega))
  rw [Nat.testBit_lt_two_pow this] at h
  cases h
theorem cl_lt {N S i : Nat} (hN : N ≤ 5) (hS : S < 2 ^ N) (h : S.testBit i = true) : clr S i < 2 ^ N := by
  have h32 : S < 32 := Nat.lt_of_lt_of_le hS (Nat.pow_le_pow_right (by omega) hN)
  exact Nat.lt_trans (cl_1 S h32 i (by have := sb_lt hS h; omega) h).1 hS
theorem ds_0 (c : Nat) : dst c c = 0 := by unfold dst; omega
theorem ds_t (a b c : Nat) : dst a c ≤ dst a b + dst b c := by unfold dst; omega
theorem ds_8 {a b : Nat} (ha : a < 25) (hb : b < 25) : dst a b ≤ 8 := gr_2 a ha b hb
/-- the fewest STEPS from c through the told CELLS of S -/
def fwN (T : Nat → Nat) (N : Nat) : Nat → Nat → Nat → Nat
  | 0, _, _ => 0
  | f + 1, c, S => if S = 0 then 0 else mnW (fun i => S.testBit i) (fun i => dst c (T i) + fwN T N f (T i) (clr S i)) N
def FW (T : Nat → Nat) (N c S : Nat) : Nat := fwN T N (cd S) c S
def tOK (T : Nat → Nat) (N : Nat) : Prop := ∀ k, k < N → T k < 25
theorem FW_0 (T : Nat → Nat) (N c : Nat) : FW T N c 0 = 0 := rfl
theorem FW_s {T : Nat → Nat} {N c S : Nat} (hN : N ≤ 5) (hS : S < 2 ^ N) (h0 : ¬ S = 0) : FW T N c S = mnW (fun i => S.testBit i) (fun i => dst c (T i) + FW T N (T i) (clr S i)) N := by
  have h32 : S < 32 := Nat.lt_of_lt_of_le hS (Nat.pow_le_pow_right (by omega) hN)
  have hd := cd_0 S h32
  obtain ⟨f, hf⟩ : ∃ f, cd S = f + 1 := ⟨cd S - 1, by have : ¬ cd S = 0 := fun z => h0 (hd.2 z); omega⟩
  unfold FW
  rw [hf]
  show (if S = 0 then 0 else mnW _ _ N) = _
  rw [if_neg h0]
  refine mnW_c N (fun i hi hb => ?_)
  have := (cl_1 S h32 i (by omega) hb).2.1
  rw [show cd (clr S i) = f by omega]
theorem FW_le {T : Nat → Nat} {N c S i : Nat} (hN : N ≤ 5) (hS : S < 2 ^ N) (hi : S.testBit i = true) : FW T N c S ≤ dst c (T i) + FW T N (T i) (clr S i) := by
  have h0 : ¬ S = 0 := fun z => by rw [z, Nat.zero_testBit] at hi; cases hi
  rw [FW_s hN hS h0]
  exact mnW_le (P := fun i => S.testBit i) (F := fun i => dst c (T i) + FW T N (T i) (clr S i)) hi N (sb_lt hS hi)
theorem FW_bd {T : Nat → Nat} {N : Nat} (hN : N ≤ 5) (hT : tOK T N) : ∀ (k S c : Nat), cd S ≤ k → S < 2 ^ N → c < 25 → FW T N c S ≤ 8 * cd S
  | k, S, c, hk, hS, hc => by
    have h32 : S < 32 := Nat.lt_of_lt_of_le hS (Nat.pow_le_pow_right (by omega) hN)
    by_cases h0 : S = 0
    · rw [h0, FW_0]; omega
    · obtain ⟨i, hi, hb⟩ := sb_e hN hS h0
      have c1 := cl_1 S h32 i (by omega) hb
      match k, hk with
      | 0, hk => omega
      | k + 1, hk =>
        have a := FW_le (T := T) (c := c) hN hS hb
        have b := FW_bd hN hT k (clr S i) (T i) (by omega) (cl_lt hN hS hb) (hT i hi)
        have d := ds_8 hc (hT i hi)
        omega
/-- where the least comes from -/
theorem FW_ex {T : Nat → Nat} {N c S : Nat} (hN : N ≤ 5) (hT : tOK T N) (hc : c < 25) (hS : S < 2 ^ N) (h0 : ¬ S = 0) : ∃ i, i < N ∧ S.testBit i = true ∧ FW T N c S = dst c (T i) + FW T N (T i) (clr S i) := by
  have h32 : S < 32 := Nat.lt_of_lt_of_le hS (Nat.pow_le_pow_right (by omega) hN)
  have b := FW_bd hN hT (cd S) S c (Nat.le_refl _) hS hc
  have d := cd_0 S h32
  rw [FW_s hN hS h0] at b ⊢
  rcases mnW_ex (P := fun i => S.testBit i) (F := fun i => dst c (T i) + FW T N (T i) (clr S i)) N with h | ⟨i, h1, h2, h3⟩
  · omega
  · exact ⟨i, h1, h2, h3⟩
theorem FW_l {T : Nat → Nat} {N c c' S : Nat} (hN : N ≤ 5) (hT : tOK T N) (hc' : c' < 25) (hS : S < 2 ^ N) : FW T N c S ≤ dst c c' + FW T N c' S := by
  by_cases h0 : S = 0
  · rw [h0, FW_0]; omega
  · obtain ⟨i, hi, hb, e⟩ := FW_ex hN hT hc' hS h0
    have a := FW_le (T := T) (c := c) hN hS hb
    have t := ds_t c c' (T i)
    omega
theorem FW_m {T : Nat → Nat} {N : Nat} (hN : N ≤ 5) (hT : tOK T N) : ∀ (k S c j : Nat), cd S ≤ k → S < 2 ^ N → c < 25 → S.testBit j = true → FW T N c (clr S j) ≤ FW T N c S
  | k, S, c, j, hk, hS, hc, hj => by
    have h32 : S < 32 := Nat.lt_of_lt_of_le hS (Nat.pow_le_pow_right (by omega) hN)
    have h0 : ¬ S = 0 := fun z => by rw [z, Nat.zero_testBit] at hj; cases hj
    have jN := sb_lt hS hj
    obtain ⟨i, hi, hb, e⟩ := FW_ex hN hT hc hS h0
    by_cases q : i = j
    · subst q
      rw [e]
      exact FW_l hN hT (hT i hi) (cl_lt hN hS hj)
    · have c1 := cl_1 S h32 i (by omega) hb
      have hij : (clr S i).testBit j = true := by rw [cl_2 S h32 i (by omega) j (by omega) q]; exact hj
      have hji : (clr S j).testBit i = true := by rw [cl_2 S h32 j (by omega) i (by omega) (fun z => q z.symm)]; exact hb
      match k, hk with
      | 0, hk => omega
      | k + 1, hk =>
        have a := FW_m hN hT k (clr S i) (T i) j (by omega) (cl_lt hN hS hb) (hT i hi) hij
        have b := FW_le (T := T) (c := c) hN (cl_lt hN hS hj) hji
        rw [cl_3 S h32 j (by omega) i (by omega)] at b
        omega
/-- the told ones left behind having come to c -/
def wo3 (T : Nat → Nat) (N S c S' : Nat) : Prop := (∃ k, k < N ∧ T k = c ∧ S.testBit k = true ∧ S' = clr S k) ∨ ((∀ k, k < N → S.testBit k = true → T k ≠ c) ∧ S' = S)
/-- no told one that is left is where THE HARROW is -/
def cns (T : Nat → Nat) (N S c : Nat) : Prop := ∀ k, k < N → S.testBit k = true → T k ≠ c
def dis (T : Nat → Nat) (N : Nat) : Prop := ∀ i j, i < N → j < N → T i = T j → i = j
theorem wo3_lt {T : Nat → Nat} {N S c S' : Nat} (hN : N ≤ 5) (hS : S < 2 ^ N) (H : wo3 T N S c S') : S' < 2 ^ N := by
  rcases H with ⟨k, h1, h2, h3, rfl⟩ | ⟨-, rfl⟩
  · exact cl_lt hN hS h3
  · exact hS
theorem wo3_c {T : Nat → Nat} {N S c S' : Nat} (hN : N ≤ 5) (hd : dis T N) (hS : S < 2 ^ N) (H : wo3 T N S c S') : cns T N S' c := by
  have h32 : S < 32 := Nat.lt_of_lt_of_le hS (Nat.pow_le_pow_right (by omega) hN)
  rcases H with ⟨k, h1, h2, h3, rfl⟩ | ⟨h, rfl⟩
  · intro j hj hb e
    have : j = k := hd j k hj h1 (e.trans h2.symm)
    subst this
    rw [(cl_1 S h32 j (by omega) h3).2.2] at hb
    cases hb
  · exact h
theorem gr_5 : ∀ c, c < 25 → ∀ i, i < 4 → bsN c i < 25 → dst c (bsN c i) = 1 := by decide +kernel
theorem FW_a {T : Nat → Nat} {N c c' S S' : Nat} (hN : N ≤ 5) (hT : tOK T N) (hc' : c' < 25) (hS : S < 2 ^ N) (hd : dst c c' = 1) (H : wo3 T N S c' S') : FW T N c S ≤ 1 + FW T N c' S' := by
  rcases H with ⟨k, h1, h2, h3, rfl⟩ | ⟨-, rfl⟩
  · have := FW_le (T := T) (c := c) hN hS h3
    rw [h2, hd] at this
    exact this
  · have := FW_l (c := c) hN hT hc' hS
    rw [hd] at this
    exact this
theorem FW_b {T : Nat → Nat} {N c S : Nat} (hN : N ≤ 5) (hT : tOK T N) (hc : c < 25) (hS : S < 2 ^ N) (h0 : ¬ S = 0) (hk : cns T N S c) : ∃ i, i < 4 ∧ bsN c i < 25 ∧ ∀ S', wo3 T N S (bsN c i) S' → 1 + FW T N (bsN c i) S' ≤ FW T N c S := by
  have h32 : S < 32 := Nat.lt_of_lt_of_le hS (Nat.pow_le_pow_right (by omega) hN)
  obtain ⟨i, hi, hb, e⟩ := FW_ex hN hT hc hS h0
  obtain ⟨g1, g2, g3⟩ := gr_1 c hc (T i) (hT i hi) (fun z => hk i hi hb z.symm)
  refine ⟨stp c (T i), g1, g2, fun S' H => ?_⟩
  rcases H with ⟨k, h1, h2, h3, rfl⟩ | ⟨-, rfl⟩
  · by_cases q : k = i
    · subst q
      rw [← h2, ds_0] at g3
      rw [← h2]
      omega
    · have hki : (clr S k).testBit i = true := by rw [cl_2 S h32 k (by omega) i (by omega) q]; exact hb
      have hik : (clr S i).testBit k = true := by rw [cl_2 S h32 i (by omega) k (by omega) (fun z => q z.symm)]; exact h3
      have a := FW_le (T := T) (c := bsN c (stp c (T i))) hN (cl_lt hN hS h3) hki
      rw [cl_3 S h32 k (by omega) i (by omega)] at a
      have b := FW_m hN hT (cd (clr S i)) (clr S i) (T i) k (Nat.le_refl _) (cl_lt hN hS hb) (hT i hi) hik
      omega
  · have a := FW_le (T := T) (c := bsN c (stp c (T i))) hN hS hb
    omega
/-- what the reference has come to, and what is left -/
def cwN (N e : Nat) : Nat := 2 ^ N - (e + 1)
theorem co_b {N e k : Nat} (he : e < 2 ^ N) (hk : k < N) : (cwN N e).testBit k = !e.testBit k := by
  unfold cwN
  rw [Nat.testBit_two_pow_sub_succ he, decide_eq_true hk, Bool.true_and]
theorem co_lt {N e : Nat} (he : e < 2 ^ N) : cwN N e < 2 ^ N := by unfold cwN; omega
theorem co_or : ∀ N, N ≤ 5 → ∀ e, e < 2 ^ N → ∀ k, k < N → e.testBit k = false → cwN N (e ||| 2 ^ k) = clr (cwN N e) k := by decide +kernel
theorem co_o2 : ∀ e, e < 32 → ∀ k, k < 5 → e.testBit k = true → e ||| 2 ^ k = e := by decide +kernel
theorem cm_no {T : Nat → Int32} {c : Int32} {S : Nat} : ∀ n, (∀ k, k < n → ¬ T k = c) → cmN T c n S = S
  | 0, _ => rfl
  | n + 1, H => by
    show (if T n = c then _ else _) = _
    rw [if_neg (H n (by omega))]
    exact cm_no n (fun k hk => H k (by omega))
theorem cm_on {T : Nat → Int32} {c : Int32} {S k : Nat} (hk : T k = c) : ∀ n, k < n → (∀ j, j < n → T j = c → j = k) → cmN T c n S = S ||| 2 ^ k
  | 0, h, _ => by omega
  | n + 1, h, H => by
    show (if T n = c then cmN T c n S ||| 2 ^ n else cmN T c n S) = _
    by_cases q : T n = c
    · have e := H n (by omega) q
      subst e
      rw [if_pos q, cm_no n (fun j hj z => by have := H j (by omega) z; omega)]
    · rw [if_neg q]
      have : k ≠ n := fun z => q (z ▸ hk)
      exact cm_on hk n (by omega) (fun j hj => H j (by omega))
theorem co_w {T : Nat → Nat} {N e c : Nat} (hN : N ≤ 5) (hT : tOK T N) (hd : dis T N) (he : e < 2 ^ N) (hc : c < 25) : wo3 T N (cwN N e) c (cwN N (CM (fun k => nI (T k)) N e c)) := by
  have h32 : e < 32 := Nat.lt_of_lt_of_le he (Nat.pow_le_pow_right (by omega) hN)
  have inj : ∀ k, k < N → (nI (T k) = nI c ↔ T k = c) := fun k hk => nI_eq (by have := hT k hk; omega) (by omega)
  unfold CM
  by_cases q : ∃ k, k < N ∧ T k = c
  · obtain ⟨k, h1, h2⟩ := q
    rw [cm_on (T := fun k => nI (T k)) (k := k) ((inj k h1).mpr h2) N h1 (fun j hj z => hd j k hj h1 (((inj j hj).mp z).trans h2.symm))]
    cases hb : e.testBit k with
    | false => exact Or.inl ⟨k, h1, h2, by rw [co_b he h1, hb]; rfl, co_or N hN e he k h1 hb⟩
    | true =>
      rw [co_o2 e h32 k (by omega) hb]
      refine Or.inr ⟨fun j hj hz w => ?_, rfl⟩
      have : j = k := hd j k hj h1 (w.trans h2.symm)
      subst this
      rw [co_b he hj, hb] at hz
      cases hz
  · rw [cm_no (T := fun k => nI (T k)) N (fun k hk z => q ⟨k, hk, (inj k hk).mp z⟩)]
    exact Or.inr ⟨fun k hk _ w => q ⟨k, hk, w⟩, rfl⟩
/-- both hold the same: what the reference's rounds have come to is the class's least -/
theorem V_FW {T : Nat → Nat} {N : Nat} {V : Nat → Nat} (hN : N ≤ 5) (hT : tOK T N) (hd : dis T N) (B : ∀ e c, e ≤ p2 N - 1 → c < 25 → stl V (fun k => nI (T k)) N e c) (Q : ∀ e c, e < p2 N - 1 → c < 25 → ∀ i, i < 4 → sat V (fun k => nI (T k)) N e c i) : ∀ e c, e < p2 N → c < 25 → cns T N (cwN N e) c → V (25 * e + c) = FW T N c (cwN N e) := by
  have hp : p2 N = 2 ^ N := rfl
  have nx : ∀ e c i, e < p2 N → c < 25 → i < 4 → bsN c i < 25 → CM (fun k => nI (T k)) N e (bsN c i) < p2 N ∧ wo3 T N (cwN N e) (bsN c i) (cwN N (CM (fun k => nI (T k)) N e (bsN c i))) ∧ cns T N (cwN N (CM (fun k => nI (T k)) N e (bsN c i))) (bsN c i) := fun e c i he hc hi hb => by
    have w := co_w hN hT hd (show e < 2 ^ N from he) hb
    exact ⟨cm_lt _ _ (N := N) he N (Nat.le_refl _), w, wo3_c hN hd (co_lt he) w⟩
  have full : ∀ e c, e = p2 N - 1 → c < 25 → V (25 * e + c) = 0 ∧ cwN N e = 0 := fun e c he hc => by
    have h1 := (B e c (by omega) hc).1
    have h2 : 0 < 2 ^ N := Nat.two_pow_pos N
    rw [he] at h1 ⊢
    exact ⟨by omega, by unfold cwN; omega⟩
  have up : ∀ k e c, e < p2 N → c < 25 → cns T N (cwN N e) c → FW T N c (cwN N e) ≤ k → V (25 * e + c) ≤ FW T N c (cwN N e) := by
    intro k
    induction k with
    | zero =>
      intro e c he hc hk h
      by_cases q : e = p2 N - 1
      · rw [(full e c q hc).1]; omega
      · have h0 : ¬ cwN N e = 0 := by unfold cwN; omega
        obtain ⟨i, h1, h2, h3⟩ := FW_b hN hT hc (co_lt he) h0 hk
        have := h3 _ (nx e c i he hc h1 h2).2.1
        omega
    | succ k ih =>
      intro e c he hc hk h
      by_cases q : e = p2 N - 1
      · rw [(full e c q hc).1]; omega
      · have h0 : ¬ cwN N e = 0 := by unfold cwN; omega
        obtain ⟨i, h1, h2, h3⟩ := FW_b hN hT hc (co_lt he) h0 hk
        obtain ⟨n1, n2, n3⟩ := nx e c i he hc h1 h2
        have a := h3 _ n2
        have b := ih _ _ n1 h2 n3 (by omega)
        have s := Q e c (by omega) hc i h1 h2
        omega
  have dn : ∀ k e c, e < p2 N → c < 25 → V (25 * e + c) ≤ k → FW T N c (cwN N e) ≤ V (25 * e + c) := by
    intro k
    induction k with
    | zero =>
      intro e c he hc h
      by_cases q : e = p2 N - 1
      · rw [(full e c q hc).2, FW_0]; omega
      · rcases (B e c (by omega) hc).2 with z | ⟨i, h1, h2, h3⟩
        · exact absurd z q
        · omega
    | succ k ih =>
      intro e c he hc h
      by_cases q : e = p2 N - 1
      · rw [(full e c q hc).2, FW_0]; omega
      · rcases (B e c (by omega) hc).2 with z | ⟨i, h1, h2, h3⟩
        · exact absurd z q
        · obtain ⟨n1, n2, n3⟩ := nx e c i he hc h1 h2
          have a := ih _ _ n1 h2 (by omega)
          have b := FW_a (c := c) hN hT h2 (co_lt he) (gr_5 c hc i h1 h2) n2
          omega
  intro e c he hc hk
  exact Nat.le_antisymm (up _ e c he hc hk (Nat.le_refl _)) (dn _ e c he hc (Nat.le_refl _))
/-- the same as a function -/
def woF (T : Nat → Nat) (c : Nat) : Nat → Nat → Nat
  | 0, S => S
  | n + 1, S => if T n = c then (if S.testBit n = true then clr S n else woF T c n S) else woF T c n S
theorem wo3_u {T : Nat → Nat} {N S c S1 S2 : Nat} (hd : dis T N) (H1 : wo3 T N S c S1) (H2 : wo3 T N S c S2) : S1 = S2 := by
  rcases H1 with ⟨k, a1, a2, a3, rfl⟩ | ⟨a, rfl⟩
  · rcases H2 with ⟨j, b1, b2, b3, rfl⟩ | ⟨b, rfl⟩
    · rw [hd k j a1 b1 (a2.trans b2.symm)]
    · exact absurd a2 (b k a1 a3)
  · rcases H2 with ⟨j, b1, b2, b3, rfl⟩ | ⟨b, rfl⟩
    · exact absurd b2 (a j b1 b3)
    · rfl
theorem woF_3 {T : Nat → Nat} {c S : Nat} : ∀ N, wo3 T N S c (woF T c N S)
  | 0 => Or.inr ⟨fun k hk => by omega, rfl⟩
  | n + 1 => by
    have ih := woF_3 (T := T) (c := c) (S := S) n
    have lift : ¬ (T n = c ∧ S.testBit n = true) → wo3 T (n + 1) S c (woF T c n S) := fun q => by
      rcases ih with ⟨k, h1, h2, h3, h4⟩ | ⟨h1, h2⟩
      · exact Or.inl ⟨k, by omega, h2, h3, h4⟩
      · refine Or.inr ⟨fun k hk hb e => ?_, h2⟩
        by_cases z : k = n
        · subst z; exact q ⟨e, hb⟩
        · exact h1 k (by omega) hb e
    show wo3 T (n + 1) S c (if T n = c then (if S.testBit n = true then clr S n else woF T c n S) else woF T c n S)
    by_cases q : T n = c
    · by_cases q2 : S.testBit n = true
      · rw [if_pos q, if_pos q2]; exact Or.inl ⟨n, by omega, q, q2, rfl⟩
      · rw [if_pos q, if_neg q2]; exact lift (fun z => q2 z.2)
    · rw [if_neg q]; exact lift (fun z => q z.1)
/-- a STEP i from c leaves a shortest rest -/
def gdS (T : Nat → Nat) (N c S i : Nat) : Prop := bsN c i < 25 ∧ FW T N (bsN c i) (woF T (bsN c i) N S) + 1 = FW T N c S
/-- the first such STEP; the k-th STEP -/
def fsN (T : Nat → Nat) (N c S i : Nat) : Prop := i < 4 ∧ gdS T N c S i ∧ ∀ j, j < i → ¬ gdS T N c S j
def ksN (T : Nat → Nat) (N : Nat) : Nat → Nat → Nat → Nat → Prop
  | 0, c, S, i => fsN T N c S i
  | k + 1, c, S, i => ∃ j, fsN T N c S j ∧ ksN T N k (bsN c j) (woF T (bsN c j) N S) i
theorem fsN_u {T : Nat → Nat} {N c S i j : Nat} (a : fsN T N c S i) (b : fsN T N c S j) : i = j := by
  rcases Nat.lt_trichotomy i j with h | h | h
  · exact absurd a.2.1 (b.2.2 i h)
  · exact h
  · exact absurd b.2.1 (a.2.2 j h)
theorem ksN_u {T : Nat → Nat} {N : Nat} : ∀ (k : Nat) {c S i j : Nat}, ksN T N k c S i → ksN T N k c S j → i = j
  | 0, _, _, _, _, a, b => fsN_u a b
  | k + 1, _, _, _, _, ⟨x, a1, a2⟩, ⟨y, b1, b2⟩ => by
    have := fsN_u a1 b1
    subst this
    exact ksN_u k a2 b2
theorem gd_ex {T : Nat → Nat} {N c S : Nat} (hN : N ≤ 5) (hT : tOK T N) (hc : c < 25) (hS : S < 2 ^ N) (h0 : ¬ S = 0) (hk : cns T N S c) : ∃ i, i < 4 ∧ gdS T N c S i := by
  obtain ⟨i, h1, h2, h3⟩ := FW_b hN hT hc hS h0 hk
  have a := h3 _ (woF_3 N)
  have b := FW_a (c := c) hN hT h2 hS (gr_5 c hc i h1 h2) (woF_3 (T := T) (c := bsN c i) (S := S) N)
  exact ⟨i, h1, h2, by omega⟩
/-- the told CELLS of K, rising -/
def tdK (K : Nat) : Nat → Nat → Nat
  | 0, _ => 0
  | n + 1, k => if K / 2 ^ n % 2 = 1 ∧ bs K n = k then n else tdK K n k
theorem bsK_lt {K i j : Nat} (h : K / 2 ^ i % 2 = 1) (hij : i < j) : bs K i < bs K j := by
  have a := bs_mono K j (i := i + 1) (by omega)
  have b : bs K (i + 1) = bs K i + K / 2 ^ i % 2 := rfl
  omega
theorem tdK_e {K j : Nat} (h : K / 2 ^ j % 2 = 1) : ∀ n, j < n → tdK K n (bs K j) = j
  | 0, q => by omega
  | n + 1, q => by
    show (if K / 2 ^ n % 2 = 1 ∧ bs K n = bs K j then n else tdK K n (bs K j)) = j
    by_cases e : j = n
    · subst e; rw [if_pos ⟨h, rfl⟩]
    · rw [if_neg (fun z => by have := bsK_lt h (show j < n by omega); omega)]
      exact tdK_e h n (by omega)
theorem tdK_s {K : Nat} : ∀ (n k : Nat), k < bs K n → ∃ j, j < n ∧ K / 2 ^ j % 2 = 1 ∧ bs K j = k
  | 0, k, h => by simp only [bs] at h; omega
  | n + 1, k, h => by
    have e : bs K (n + 1) = bs K n + K / 2 ^ n % 2 := rfl
    by_cases q : k < bs K n
    · obtain ⟨j, h1, h2, h3⟩ := tdK_s n k q
      exact ⟨j, by omega, h2, h3⟩
    · exact ⟨n, by omega, by omega, by omega⟩
theorem tdK_ok (K : Nat) : tOK (tdK K 25) (bs K 25) := fun k hk => by
  obtain ⟨j, h1, h2, h3⟩ := tdK_s 25 k hk
  rw [← h3, tdK_e h2 25 h1]; exact h1
theorem tdK_d (K : Nat) : dis (tdK K 25) (bs K 25) := fun i j hi hj e => by
  obtain ⟨a, a1, a2, a3⟩ := tdK_s 25 i hi
  obtain ⟨b, b1, b2, b3⟩ := tdK_s 25 j hj
  rw [← a3, ← b3, tdK_e a2 25 a1, tdK_e b2 25 b1] at e
  rw [← a3, ← b3, e]
