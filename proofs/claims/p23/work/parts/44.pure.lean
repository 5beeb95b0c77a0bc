/-! PHASE 2, pure: TOKENs -/
def ru (P : Int32 → Bool) (B : Nat → Int32) (n : Nat) : Nat → Nat → Nat
  | 0, p => p
  | f + 1, p => if p < n ∧ P (B p) = true then ru P B n f (p + 1) else p
/-- the first place from p on at which P ends, or n -/
def rn (P : Int32 → Bool) (B : Nat → Int32) (n p : Nat) : Nat := ru P B n (n - p) p
theorem rn_step {P : Int32 → Bool} {B : Nat → Int32} {n p : Nat} (h : p < n) (hp : P (B p) = true) : rn P B n p = rn P B n (p + 1) := by
  unfold rn
  rw [show n - p = (n - (p + 1)) + 1 by omega]
  simp only [ru]
  rw [if_pos ⟨h, hp⟩]
theorem rn_stop {P : Int32 → Bool} {B : Nat → Int32} {n p : Nat} (h : n ≤ p ∨ P (B p) = false) : rn P B n p = p := by
  unfold rn
  cases n - p with
  | zero => rfl
  | succ f =>
    simp only [ru]
    rw [if_neg]
    rintro ⟨a, b⟩
    rcases h with h | h
    · omega
    · rw [h] at b; cases b
theorem ru_ge {P : Int32 → Bool} {B : Nat → Int32} {n : Nat} : ∀ (f p : Nat), p ≤ ru P B n f p
  | 0, p => Nat.le_refl p
  | f + 1, p => by
    simp only [ru]
    split
    · exact Nat.le_trans (Nat.le_succ p) (ru_ge f (p + 1))
    · exact Nat.le_refl p
theorem rn_ge {P : Int32 → Bool} {B : Nat → Int32} {n p : Nat} : p ≤ rn P B n p := ru_ge _ _
theorem ru_le {P : Int32 → Bool} {B : Nat → Int32} {n : Nat} : ∀ (f p : Nat), p ≤ n → ru P B n f p ≤ n
  | 0, p, h => h
  | f + 1, p, h => by
    simp only [ru]
    split
    · rename_i z; exact ru_le f (p + 1) z.1
    · exact h
theorem rn_le {P : Int32 → Bool} {B : Nat → Int32} {n p : Nat} (h : p ≤ n) : rn P B n p ≤ n := ru_le _ _ h
theorem ru_in {P : Int32 → Bool} {B : Nat → Int32} {n : Nat} : ∀ (f p i : Nat), p ≤ i → i < ru P B n f p → i < n ∧ P (B i) = true
  | 0, p, i, h1, h2 => by simp only [ru] at h2; omega
  | f + 1, p, i, h1, h2 => by
    simp only [ru] at h2
    split at h2
    · rename_i z
      by_cases e : i = p
      · subst e; exact z
      · exact ru_in f (p + 1) i (by omega) h2
    · omega
theorem rn_in {P : Int32 → Bool} {B : Nat → Int32} {n p i : Nat} (h1 : p ≤ i) (h2 : i < rn P B n p) : i < n ∧ P (B i) = true := ru_in _ _ _ h1 h2
def isSp (x : Int32) : Bool := decide (x = 32)
def isLe (x : Int32) : Bool := decide (97 ≤ x.toInt ∧ x.toInt ≤ 122)
def isFi (x : Int32) : Bool := decide (48 ≤ x.toInt ∧ x.toInt ≤ 57)
/-- the TOKEN scanned from p: its start, its end, its type (0 ended, 1 word, 2 number, 3 close, 4 else), its value -/
def tS (B : Nat → Int32) (n p : Nat) : Nat := rn isSp B n p
def tE (B : Nat → Int32) (n p : Nat) : Nat :=
  if n ≤ tS B n p then tS B n p else if isLe (B (tS B n p)) = true then rn isLe B n (tS B n p) else if isFi (B (tS B n p)) = true then rn isFi B n (tS B n p) else tS B n p + 1
def tT (B : Nat → Int32) (n p : Nat) : Nat :=
  if n ≤ tS B n p then 0 else if isLe (B (tS B n p)) = true then 1 else if isFi (B (tS B n p)) = true then (if tE B n p - tS B n p ≤ 2 then 2 else 4) else if B (tS B n p) = 59 then 3 else 4
def tv1 (b : Int32) : Int32 := 10 * 0 + b - 48
def tv2 (v b : Int32) : Int32 := 10 * v + b - 48
def tV (B : Nat → Int32) (n p : Nat) : Int32 := if tE B n p - tS B n p ≤ 1 then tv1 (B (tS B n p)) else tv2 (tv1 (B (tS B n p))) (B (tS B n p + 1))
theorem tS_ge {B : Nat → Int32} {n p : Nat} : p ≤ tS B n p := rn_ge
theorem tS_le {B : Nat → Int32} {n p : Nat} (h : p ≤ n) : tS B n p ≤ n := rn_le h
theorem tE_gt {B : Nat → Int32} {n p : Nat} (h : tS B n p < n) : tS B n p < tE B n p := by
  unfold tE
  rw [if_neg (by omega)]
  split
  · rename_i z
    have := rn_step (P := isLe) (B := B) h z
    rw [this]
    exact rn_ge
  · split
    · rename_i z
      have := rn_step (P := isFi) (B := B) h z
      rw [this]
      exact rn_ge
    · omega
theorem tE_le {B : Nat → Int32} {n p : Nat} (h : p ≤ n) : tE B n p ≤ n := by
  have hs := tS_le (B := B) h
  unfold tE
  split
  · exact hs
  · split
    · exact rn_le hs
    · split
      · exact rn_le hs
      · omega
/-! PHASE 2, pure: the nave as numbers -/
/-- KIND, CELL, STONY by CELL, what lies by CELL (0, or 1 + KIND + 6 DEPTH + 60 AGE) -/
abbrev nS : Type := Nat × Nat × (Nat → Nat) × (Nat → Nat)
def nOk (z : nS) : Prop := z.1 < 6 ∧ z.2.1 < 25 ∧ (∀ c, c < 25 → z.2.2.1 c < 5) ∧ ∀ c, c < 25 → z.2.2.2 c ≤ 6000
def uN (f : Nat → Nat) (c v : Nat) : Nat → Nat := fun i => if i = c then v else f i
theorem uN_s (f : Nat → Nat) (c v : Nat) : uN f c v c = v := if_pos rfl
theorem uN_o (f : Nat → Nat) {c i : Nat} (v : Nat) (hi : i ≠ c) : uN f c v i = f i := if_neg hi
def deN (k s d : Nat) : Nat := if k = 1 then 5 - s else if k = 2 then (5 - s) / 2 else if k = 3 then (if s ≤ 1 then 8 - s else 5 - s) else if k = 4 then (if (5 - s) / 2 ≤ 1 then (5 - s) / 2 else 1) else if k = 5 then 4 - s - d else 4 - s
def coN (k s d : Nat) : Nat := if d + deN k s d ≤ 9 then d + deN k s d else 9
theorem co_all : ∀ k, k < 6 → ∀ s, s < 5 → ∀ d, d < 10 → (daC (nI k) (nI d) (nI s) = nI (coN k s d) ∧ coV (nI k) (nI s) (nI d) = nI (coN k s d) ∧ coN k s d ≤ 9 ∧ d ≤ coN k s d) := by decide +kernel
def stN (k s v : Nat) : Nat := if v = 0 then 0 else 1 + (v - 1) % 6 + 6 * coN k s ((v - 1) / 6 % 10) + 60 * ((v - 1) / 60)
def wkV (v : Nat) : Nat := if v = 0 then 0 else if (v - 1) / 6 % 10 = 0 then 0 else if 99 ≤ (v - 1) / 60 then v else v + 60
def nBeg (k a : Nat) : nS := (k, a, fun _ => 0, fun _ => 0)
def nSto (z : nS) (c s : Nat) : nS := (z.1, z.2.1, uN z.2.2.1 c s, z.2.2.2)
def nSay (z : nS) (c k : Nat) : nS := (z.1, z.2.1, z.2.2.1, uN z.2.2.2 c (1 + k))
def nStp (z : nS) (c : Nat) : nS := (z.1, c, z.2.2.1, uN z.2.2.2 c (stN z.1 (z.2.2.1 c) (z.2.2.2 c)))
def nWk (z : nS) : nS := (z.1, z.2.1, z.2.2.1, fun i => wkV (z.2.2.2 i))
def nWks : Nat → nS → nS
  | 0, z => z
  | f + 1, z => nWks f (nWk z)
theorem nWks_s : ∀ (f : Nat) (z : nS), nWks (f + 1) z = nWk (nWks f z)
  | 0, _ => rfl
  | f + 1, z => nWks_s f (nWk z)
theorem nBeg_ok {k a : Nat} (hk : k < 6) (ha : a < 25) : nOk (nBeg k a) := ⟨hk, ha, fun _ _ => by show 0 < 5; omega, fun _ _ => by show 0 ≤ 6000; omega⟩
theorem nSto_ok {z : nS} {c s : Nat} (H : nOk z) (hs : s < 5) : nOk (nSto z c s) := by
  obtain ⟨a, b, d, e⟩ := H
  refine ⟨a, b, fun i hi => ?_, e⟩
  show uN z.2.2.1 c s i < 5
  by_cases q : i = c
  · subst q; rw [uN_s]; exact hs
  · rw [uN_o _ _ q]; exact d i hi
theorem nSay_ok {z : nS} {c k : Nat} (H : nOk z) (hk : k < 6) : nOk (nSay z c k) := by
  obtain ⟨a, b, d, e⟩ := H
  refine ⟨a, b, d, fun i hi => ?_⟩
  show uN z.2.2.2 c (1 + k) i ≤ 6000
  by_cases q : i = c
  · subst q; rw [uN_s]; omega
  · rw [uN_o _ _ q]; exact e i hi
theorem stN_le {k s v : Nat} (hk : k < 6) (hs : s < 5) (hv : v ≤ 6000) : stN k s v ≤ 6000 := by
  unfold stN
  split
  · omega
  · have := (co_all k hk s hs ((v - 1) / 6 % 10) (by omega)).2.2.1
    omega
theorem nStp_ok {z : nS} {c : Nat} (H : nOk z) (hc : c < 25) : nOk (nStp z c) := by
  obtain ⟨a, b, d, e⟩ := H
  refine ⟨a, hc, d, fun i hi => ?_⟩
  show uN z.2.2.2 c _ i ≤ 6000
  by_cases q : i = c
  · subst q; rw [uN_s]; exact stN_le a (d i hi) (e i hi)
  · rw [uN_o _ _ q]; exact e i hi
theorem wkV_le {v : Nat} (hv : v ≤ 6000) : wkV v ≤ 6000 := by
  unfold wkV
  split
  · omega
  · split
    · omega
    · split <;> omega
theorem nWk_ok {z : nS} (H : nOk z) : nOk (nWk z) := by
  obtain ⟨a, b, d, e⟩ := H
  exact ⟨a, b, d, fun i hi => wkV_le (e i hi)⟩
theorem nWks_ok : ∀ (f : Nat) {z : nS}, nOk z → nOk (nWks f z)
  | 0, _, H => H
  | f + 1, _, H => nWks_ok f (nWk_ok H)
/-- what lies, as the class codes it -/
def eX (v : Nat) : Nat := 1000 * ((v - 1) % 6) + 100 * ((v - 1) / 6 % 10) + (v - 1) / 60
def eC (v : Nat) : Int32 := if v = 0 then (-1 : Int32) else nI (eX v)
theorem eC_0 : eC 0 = (-1 : Int32) := rfl
theorem eC_p {v : Nat} (h : ¬ v = 0) : eC v = nI (eX v) := if_neg h
theorem eX_lt {v : Nat} (h : v ≤ 6000) : eX v < 10000 := by unfold eX; omega
theorem eC_n {v : Nat} (h : v ≤ 6000) : eC v = (-1 : Int32) ↔ v = 0 := by
  constructor
  · intro e
    refine Classical.byContradiction (fun q => ?_)
    rw [eC_p q] at e
    have := eX_lt h
    exact nI_nm (by omega) e
  · intro e; subst e; rfl
theorem dig1 {K D A : Nat} (hD : D < 10) (hA : A < 100) : (1000 * K + 100 * D + A) / 100 % 10 = D := by omega
theorem dig2 {K D A : Nat} (hA : A < 100) : (1000 * K + 100 * D + A) % 100 = A := by omega
theorem n0i : nI 0 = (0 : Int32) := rfl
theorem nI_n0 {v : Nat} (h0 : ¬ v = 0) (h : v < 2147483648) : ¬ nI v = (0 : Int32) := fun e => h0 ((nI_eq (b := 0) (by omega) (by omega)).mp e)
theorem cD_e {v : Nat} (h0 : ¬ v = 0) (h : v ≤ 6000) : cD (nI (eX v)) = nI ((v - 1) / 6 % 10) := by
  have := eX_lt h
  unfold cD
  rw [if_pos (nI_nm (by omega)), pk_div (by omega) (by omega) (by omega), pk_rem (by omega) (by omega) (by omega)]
  congr 1
  exact dig1 (by omega) (by omega)
theorem cA_e {v : Nat} (h0 : ¬ v = 0) (h : v ≤ 6000) : cA (nI (eX v)) = nI ((v - 1) / 60) := by
  have := eX_lt h
  unfold cA
  rw [if_pos (nI_nm (by omega)), pk_rem (by omega) (by omega) (by omega)]
  congr 1
  exact dig2 (by omega)
theorem mK_e {v : Nat} (h0 : ¬ v = 0) (h : v ≤ 6000) : mK (nI v) = nI ((v - 1) % 6) := by
  unfold mK
  rw [show (1 : Int32) = nI 1 from rfl, show (6 : Int32) = nI 6 from rfl, pk_sub (by omega), pk_rem (by omega) (by omega) (by omega)]
theorem mD_e {v : Nat} (h0 : ¬ v = 0) (h : v ≤ 6000) : mD (nI v) = nI ((v - 1) / 6 % 10) := by
  unfold mD
  rw [show (1 : Int32) = nI 1 from rfl, show (6 : Int32) = nI 6 from rfl, show (10 : Int32) = nI 10 from rfl, pk_sub (by omega), pk_div (by omega) (by omega) (by omega), pk_rem (by omega) (by omega) (by omega)]
theorem mA_e {v : Nat} (h0 : ¬ v = 0) (h : v ≤ 6000) : mA (nI v) = nI ((v - 1) / 60) := by
  unfold mA
  rw [show (1 : Int32) = nI 1 from rfl, show (60 : Int32) = nI 60 from rfl, pk_sub (by omega), pk_div (by omega) (by omega) (by omega)]
theorem mV_e (k d a : Nat) : mV (nI k) (nI d) (nI a) = nI (1 + k + 6 * d + 60 * a) := by
  unfold mV
  rw [show (1 : Int32) = nI 1 from rfl, show (6 : Int32) = nI 6 from rfl, show (60 : Int32) = nI 60 from rfl, pk_mul, pk_mul, nI_add, nI_add, nI_add]
theorem nI_z {v : Nat} (h : v ≤ 6000) : nI v = 0 ↔ v = 0 := by
  rw [show (0 : Int32) = nI 0 from rfl]
  exact nI_eq (by omega) (by omega)
theorem cs_e {k s v : Nat} (hk : k < 6) (hs : s < 5) (h0 : ¬ v = 0) (h : v ≤ 6000) : csV (nI k) (nI s) (nI (eX v)) = eC (stN k s v) := by
  obtain ⟨e1, -, e3, e4⟩ := co_all k hk s hs ((v - 1) / 6 % 10) (by omega)
  have e5 : stN k s v = 1 + (v - 1) % 6 + 6 * coN k s ((v - 1) / 6 % 10) + 60 * ((v - 1) / 60) := if_neg h0
  unfold csV
  rw [cD_e h0 h, e1, pk_sub e4, pk_mul, nI_add, e5, eC_p (by omega)]
  congr 1
  unfold eX
  omega
theorem st_e {k s v : Nat} (hk : k < 6) (hs : s < 5) (h0 : ¬ v = 0) (h : v ≤ 6000) : mV (mK (nI v)) (coV (nI k) (nI s) (mD (nI v))) (mA (nI v)) = nI (stN k s v) := by
  obtain ⟨-, e2, e3, e4⟩ := co_all k hk s hs ((v - 1) / 6 % 10) (by omega)
  have e5 : stN k s v = 1 + (v - 1) % 6 + 6 * coN k s ((v - 1) / 6 % 10) + 60 * ((v - 1) / 60) := if_neg h0
  rw [mK_e h0 h, mD_e h0 h, mA_e h0 h, e2, mV_e, e5]
theorem cw_e {v : Nat} (h : v ≤ 6000) : cwk (eC v) = eC (wkV v) := by
  by_cases h0 : v = 0
  · subst h0; decide
  · have hl := eX_lt h
    unfold cwk wkV
    rw [if_neg h0, eC_p h0, cD_e h0 h, cA_e h0 h]
    by_cases q : (v - 1) / 6 % 10 = 0
    · rw [if_pos q, q, if_pos n0i, eC_0]
    · rw [if_neg q, if_neg (nI_n0 q (by omega)), if_pos (nI_nm (by omega))]
      by_cases q2 : 99 ≤ (v - 1) / 60
      · rw [if_pos q2, if_pos ((nI_leI (by omega) (by omega)).mpr q2), eC_p h0]
      · rw [if_neg q2, if_neg (fun e => q2 ((nI_leI (by omega) (by omega)).mp e)), nI_add, eC_p (by omega)]
        congr 1
        unfold eX; omega
theorem wk_e {v : Nat} (h : v ≤ 6000) : wk (nI v) = nI (wkV v) := by
  unfold wk wkV
  by_cases h0 : v = 0
  · subst h0; rw [if_pos rfl, if_neg (fun z => z rfl)]
  · rw [if_neg h0, if_pos (fun z => h0 ((nI_z h).mp z)), mD_e h0 h, mA_e h0 h]
    by_cases q : (v - 1) / 6 % 10 = 0
    · rw [if_pos q, q, if_pos n0i]
    · rw [if_neg q, if_neg (nI_n0 q (by omega))]
      by_cases q2 : 99 ≤ (v - 1) / 60
      · rw [if_pos q2, if_pos ((nI_leI (by omega) (by omega)).mpr q2)]
      · rw [if_neg q2, if_neg (fun e => q2 ((nI_leI (by omega) (by omega)).mp e)), nI_add]
/-- the class's nave at place n, the reference's row q -/
def rC (h : xI) (n : Nat) (z : nS) : Prop := h n 2 = nI z.1 ∧ h n 3 = nI z.2.1 ∧ (∀ c, c < 25 → h (n + 1) c = nI (z.2.2.1 c)) ∧ ∀ c, c < 25 → h (n + 2) c = eC (z.2.2.2 c)
def rM (h : xI) (q : Nat) (z : nS) : Prop := h q 30 = nI z.1 ∧ h q 28 = nI z.2.1 ∧ (∀ c, c < 25 → h q (31 + c) = nI (z.2.2.1 c)) ∧ ∀ c, c < 25 → h q (3 + c) = nI (z.2.2.2 c)
theorem rC_k {h h' : xI} {n : Nat} {z : nS} (f : ∀ q i, n ≤ q → q ≤ n + 2 → h' q i = h q i) (H : rC h n z) : rC h' n z := by
  obtain ⟨a, b, d, e⟩ := H
  exact ⟨by rw [f _ _ (by omega) (by omega)]; exact a, by rw [f _ _ (by omega) (by omega)]; exact b, fun c hc => by rw [f _ _ (by omega) (by omega)]; exact d c hc, fun c hc => by rw [f _ _ (by omega) (by omega)]; exact e c hc⟩
theorem rM_k {h h' : xI} {q : Nat} {z : nS} (f : ∀ i, 3 ≤ i → i ≠ 29 → h' q i = h q i) (H : rM h q z) : rM h' q z := by
  obtain ⟨a, b, d, e⟩ := H
  exact ⟨by rw [f _ (by omega) (by omega)]; exact a, by rw [f _ (by omega) (by omega)]; exact b, fun c hc => by rw [f _ (by omega) (by omega)]; exact d c hc, fun c hc => by rw [f _ (by omega) (by omega)]; exact e c hc⟩
theorem rC_at {h : xI} {n : Nat} {z : nS} (H : rC h n z) (ho : nOk z) : atOk h n := ⟨z.2.1, ho.2.1, H.2.1⟩
theorem rC_beg (h : xI) (n k a : Nat) : rC (cbH h n (nI k) (nI a)) n (nBeg k a) := by
  unfold cbH
  refine ⟨?_, ?_, fun c hc => ?_, fun c hc => ?_⟩
  · rw [u2_ne _ _ _ _ (by omega), u2_ne _ _ _ _ (by omega), u2_s]; rfl
  · rw [u2_ne _ _ _ _ (by omega), u2_s]; rfl
  · rw [u2_ne _ _ _ _ (by omega), u2_ne _ _ _ _ (by omega), u2_ne _ _ _ _ (by omega), mp_ne _ _ _ _ _ (by omega)]
    unfold mp; rw [if_pos (by omega)]; rfl
  · rw [u2_ne _ _ _ _ (by omega), u2_ne _ _ _ _ (by omega), u2_ne _ _ _ _ (by omega)]
    unfold mp; rw [if_pos (by omega)]; rfl
theorem rC_sto {h : xI} {n c s : Nat} {z : nS} (H : rC h n z) : rC (u2 h (n + 1) c (nI s)) n (nSto z c s) := by
  obtain ⟨a, b, d, e⟩ := H
  refine ⟨by rw [u2_ne _ _ _ _ (by omega)]; exact a, by rw [u2_ne _ _ _ _ (by omega)]; exact b, fun i hi => ?_, fun i hi => by rw [u2_ne _ _ _ _ (by omega)]; exact e i hi⟩
  show _ = nI (uN z.2.2.1 c s i)
  by_cases q : i = c
  · subst q; rw [uN_s, u2_s]
  · rw [uN_o _ _ q, u2_ne _ _ _ _ (by omega)]; exact d i hi
theorem rC_say {h : xI} {n c k : Nat} {z : nS} (H : rC h n z) (hk : k < 6) : rC (u2 h (n + 2) c (nI 1000 * nI k)) n (nSay z c k) := by
  obtain ⟨a, b, d, e⟩ := H
  refine ⟨by rw [u2_ne _ _ _ _ (by omega)]; exact a, by rw [u2_ne _ _ _ _ (by omega)]; exact b, fun i hi => by rw [u2_ne _ _ _ _ (by omega)]; exact d i hi, fun i hi => ?_⟩
  show _ = eC (uN z.2.2.2 c (1 + k) i)
  by_cases q : i = c
  · subst q
    rw [uN_s, u2_s, eC_p (by omega), pk_mul]
    congr 1
    unfold eX; omega
  · rw [uN_o _ _ q, u2_ne _ _ _ _ (by omega)]; exact e i hi
theorem rC_stp {h : xI} {n c : Nat} {z : nS} (H : rC h n z) (ho : nOk z) (hc : c < 25) : rC (csH h n c) n (nStp z c) := by
  obtain ⟨a, b, d, e⟩ := H
  obtain ⟨o1, o2, o3, o4⟩ := ho
  have e2 : u2 h n 3 (nI c) (n + 2) c = eC (z.2.2.2 c) := by rw [u2_ne _ _ _ _ (by omega)]; exact e c hc
  have ek : u2 h n 3 (nI c) n 2 = nI z.1 := by rw [u2_ne _ _ _ _ (by omega)]; exact a
  have es : u2 h n 3 (nI c) (n + 1) c = nI (z.2.2.1 c) := by rw [u2_ne _ _ _ _ (by omega)]; exact d c hc
  refine ⟨by rw [csH_ne _ _ _ (by omega)]; exact a, csH_at _ _ _, fun i hi => by rw [csH_ne _ _ _ (by omega)]; exact d i hi, fun i hi => ?_⟩
  show _ = eC (uN z.2.2.2 c _ i)
  unfold csH
  rw [e2, ek, es]
  by_cases q0 : z.2.2.2 c = 0
  · rw [if_neg (fun w => w ((eC_n (o4 c hc)).mpr q0)), u2_ne _ _ _ _ (by omega)]
    by_cases q : i = c
    · subst q
      rw [uN_s, e i hi]
      unfold stN
      rw [if_pos q0, q0]
    · rw [uN_o _ _ q]; exact e i hi
  · rw [if_pos (fun w => q0 ((eC_n (o4 c hc)).mp w))]
    by_cases q : i = c
    · subst q
      rw [uN_s, u2_s, eC_p q0, cs_e o1 (o3 i hi) q0 (o4 i hi)]
    · rw [uN_o _ _ q, u2_ne _ _ _ _ (by omega), u2_ne _ _ _ _ (by omega)]; exact e i hi
theorem rC_wk {h : xI} {n : Nat} {z : nS} (H : rC h n z) (ho : nOk z) : rC (cwH h n) n (nWk z) := by
  obtain ⟨a, b, d, e⟩ := H
  refine ⟨by rw [cwH_ne _ _ (by omega)]; exact a, by rw [cwH_ne _ _ (by omega)]; exact b, fun i hi => by rw [cwH_ne _ _ (by omega)]; exact d i hi, fun i hi => ?_⟩
  unfold cwH
  rw [u2_ne _ _ _ _ (by omega)]
  unfold mp
  rw [if_pos (by omega), e i hi]
  exact cw_e (ho.2.2.2 i hi)
theorem rM_beg (h : xI) (q k a : Nat) : rM (bgH h q (nI k) (nI a)) q (nBeg k a) := by
  unfold bgH
  refine ⟨?_, ?_, fun c hc => ?_, fun c hc => ?_⟩
  · rw [u2_ne _ _ _ _ (by omega), u2_s]; rfl
  · rw [u2_s]; rfl
  · rw [u2_ne _ _ _ _ (by omega), u2_ne _ _ _ _ (by omega)]
    unfold mp; rw [if_pos (by omega)]; rfl
  · rw [u2_ne _ _ _ _ (by omega), u2_ne _ _ _ _ (by omega)]
    unfold mp; rw [if_pos (by omega)]; rfl
theorem rM_sto {h : xI} {q c s : Nat} {z : nS} (H : rM h q z) (hc : c < 25) : rM (u2 h q (31 + c) (nI s)) q (nSto z c s) := by
  obtain ⟨a, b, d, e⟩ := H
  refine ⟨by rw [u2_ne _ _ _ _ (by omega)]; exact a, by rw [u2_ne _ _ _ _ (by omega)]; exact b, fun i hi => ?_, fun i hi => by rw [u2_ne _ _ _ _ (by omega)]; exact e i hi⟩
  show _ = nI (uN z.2.2.1 c s i)
  by_cases w : i = c
  · subst w; rw [uN_s, u2_s]
  · rw [uN_o _ _ w, u2_ne _ _ _ _ (by omega)]; exact d i hi
theorem rM_say {h : xI} {q c k : Nat} {z : nS} (H : rM h q z) (hc : c < 25) : rM (u2 h q (3 + c) (mV (nI k) (nI 0) (nI 0))) q (nSay z c k) := by
  obtain ⟨a, b, d, e⟩ := H
  refine ⟨by rw [u2_ne _ _ _ _ (by omega)]; exact a, by rw [u2_ne _ _ _ _ (by omega)]; exact b, fun i hi => by rw [u2_ne _ _ _ _ (by omega)]; exact d i hi, fun i hi => ?_⟩
  show _ = nI (uN z.2.2.2 c (1 + k) i)
  by_cases w : i = c
  · subst w; rw [uN_s, u2_s, mV_e]; congr 1
  · rw [uN_o _ _ w, u2_ne _ _ _ _ (by omega)]; exact e i hi
theorem rM_stp {h : xI} {q c : Nat} {z : nS} (H : rM h q z) (ho : nOk z) (hc : c < 25) : rM (stH h q c) q (nStp z c) := by
  obtain ⟨a, b, d, e⟩ := H
  obtain ⟨o1, o2, o3, o4⟩ := ho
  have e2 : u2 h q 28 (nI c) q (3 + c) = nI (z.2.2.2 c) := by rw [u2_ne _ _ _ _ (by omega)]; exact e c hc
  have ek : u2 h q 28 (nI c) q 30 = nI z.1 := by rw [u2_ne _ _ _ _ (by omega)]; exact a
  have es : u2 h q 28 (nI c) q (31 + c) = nI (z.2.2.1 c) := by rw [u2_ne _ _ _ _ (by omega)]; exact d c hc
  refine ⟨by rw [stH_ne _ _ _ (by omega)]; exact a, st_28 _ _ _ hc, fun i hi => by rw [stH_ne _ _ _ (by omega)]; exact d i hi, fun i hi => ?_⟩
  show _ = nI (uN z.2.2.2 c _ i)
  unfold stH
  rw [e2, ek, es]
  by_cases q0 : z.2.2.2 c = 0
  · rw [if_pos ((nI_z (o4 c hc)).mpr q0), u2_ne _ _ _ _ (by omega)]
    by_cases w : i = c
    · subst w
      rw [uN_s, e i hi]
      unfold stN
      rw [if_pos q0, q0]
    · rw [uN_o _ _ w]; exact e i hi
  · rw [if_neg (fun w => q0 ((nI_z (o4 c hc)).mp w))]
    by_cases w : i = c
    · subst w
      rw [uN_s, u2_s, st_e o1 (o3 i hi) q0 (o4 i hi)]
    · rw [uN_o _ _ w, u2_ne _ _ _ _ (by omega), u2_ne _ _ _ _ (by omega)]; exact e i hi
theorem rM_wk {h : xI} {q : Nat} {z : nS} (H : rM h q z) (ho : nOk z) : rM (wkH h q) q (nWk z) := by
  obtain ⟨a, b, d, e⟩ := H
  refine ⟨by rw [wkH_ne _ _ (by omega)]; exact a, by rw [wkH_ne _ _ (by omega)]; exact b, fun i hi => by rw [wkH_ne _ _ (by omega)]; exact d i hi, fun i hi => ?_⟩
  unfold wkH
  rw [u2_ne _ _ _ _ (by omega)]
  unfold mp
  rw [if_pos (by omega), e i hi]
  exact wk_e (ho.2.2.2 i hi)
/-- weeks below the last one: none is left out -/
theorem rM_wks : ∀ (f : Nat) {h : xI} {q v : Nat} {z : nS}, rM h q z → nOk z → h q 29 = nI v → v + f ≤ 9999 → rM (wks q f h) q (nWks f z) ∧ wks q f h q 29 = nI (v + f)
  | 0, h, q, v, z, H, ho, e, hv => ⟨H, e⟩
  | f + 1, h, q, v, z, H, ho, e, hv => by
    have e1 : wks q (f + 1) h = wks q f (wkH h q) := by
      show (if nI 9999 ≤ h q 29 then h else wks q f (wkH h q)) = _
      rw [if_neg]
      rw [e]
      exact fun w => by have := (nI_leI (by omega) (by omega)).mp w; omega
    rw [e1]
    have e29 : wkH h q q 29 = nI (v + 1) := by
      unfold wkH
      rw [u2_s, mp_ne _ _ _ _ _ (by omega), e, nI_add]
    have := rM_wks f (rM_wk H ho) (nWk_ok ho) e29 (by omega)
    rw [show v + 1 + f = v + (f + 1) by omega] at this
    exact this
