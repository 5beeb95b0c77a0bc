/-! PHASE 2, pure: ITEMs -/
abbrev rT : Type := Bool × Nat × nS
/-- the TOKEN from p on is a number from a to b; its value -/
abbrev isN (B : Nat → Int32) (n p a b : Nat) : Prop := tT B n p = 2 ∧ (a : Int) ≤ (tV B n p).toInt ∧ (tV B n p).toInt ≤ (b : Int)
def nV (B : Nat → Int32) (n p : Nat) : Nat := (tV B n p).toInt.toNat
theorem isN_v {B : Nat → Int32} {n p a b : Nat} (H : isN B n p a b) : a ≤ nV B n p ∧ nV B n p ≤ b ∧ tV B n p = nI (nV B n p) := by
  obtain ⟨-, h1, h2⟩ := H
  have hb : (tV B n p).toInt < 2 ^ 31 := by have := (tV B n p).toInt_lt; simpa using this
  refine ⟨by unfold nV; omega, by unfold nV; omega, ?_⟩
  apply Int32.toInt_inj.mp
  unfold nV
  rw [nI_toInt (by omega)]
  omega
/-- the TOKEN from p on is the word i -/
abbrev isV (B : Nat → Int32) (n p i : Nat) : Prop := tE B n p - tS B n p = sLen.getD i 0 ∧ ∀ j, j < sLen.getD i 0 → B (tS B n p + j) = sCh i j
abbrev isW (B : Nat → Int32) (n p i : Nat) : Prop := tT B n p = 1 ∧ isV B n p i
def pNav (B : Nat → Int32) (n p : Nat) : rT := if isN B n p 0 5 then (if isN B n (tE B n p) 0 24 then (true, tE B n (tE B n p), nBeg (nV B n p) (nV B n (tE B n p))) else (false, tE B n p, nBeg 0 0)) else (false, p, nBeg 0 0)
def pSto (B : Nat → Int32) (n p : Nat) (z : nS) : rT := if isN B n p 0 24 then (if isN B n (tE B n p) 0 4 then (true, tE B n (tE B n p), nSto z (nV B n p) (nV B n (tE B n p))) else (false, tE B n p, z)) else (false, p, z)
def pSay (B : Nat → Int32) (n p : Nat) (z : nS) : rT := if isN B n p 0 24 then (if z.2.2.2 (nV B n p) = 0 then (if isN B n (tE B n p) 0 5 then (true, tE B n (tE B n p), nSay z (nV B n p) (nV B n (tE B n p))) else (false, tE B n p, z)) else (false, p, z)) else (false, p, z)
def pDrg (B : Nat → Int32) (n : Nat) : Nat → Nat → nS → rT
  | 0, p, z => (true, p, z)
  | f + 1, p, z => if isN B n p 0 3 then (if bsN z.2.1 (nV B n p) < 25 then pDrg B n f (tE B n p) (nStp z (bsN z.2.1 (nV B n p))) else (false, p, z)) else (true, p, z)
def pDra (B : Nat → Int32) (n p : Nat) (z : nS) : rT := if isN B n p 0 3 then pDrg B n 9 p z else (false, p, z)
def pWee (B : Nat → Int32) (n p : Nat) (z : nS) : rT := if isN B n p 1 99 then (true, tE B n p, nWks (nV B n p) z) else (false, p, z)
def pItm (B : Nat → Int32) (n p : Nat) (z : nS) : rT := if isW B n p 1 then pSto B n (tE B n p) z else if isW B n p 2 then pSay B n (tE B n p) z else if isW B n p 3 then pDra B n (tE B n p) z else if isW B n p 4 then pWee B n (tE B n p) z else (false, p, z)
/-- what a ; must end -/
def pCl (B : Nat → Int32) (n : Nat) (r : rT) : rT := if r.1 = true then (if tT B n r.2.1 = 3 then (true, tE B n r.2.1, r.2.2) else (false, r.2.1, r.2.2)) else (false, r.2.1, r.2.2)
def pFst (B : Nat → Int32) (n p : Nat) : rT := if isW B n p 0 then pCl B n (pNav B n (tE B n p)) else (false, p, nBeg 0 0)
def pRd (B : Nat → Int32) (n : Nat) : Nat → Nat → Nat → nS → rT
  | 0, _, _, z => (false, 0, z)
  | f + 1, it, p, z => if tT B n p = 0 then (true, it, z) else if (pCl B n (pItm B n p z)).1 = true then pRd B n f (it + 1) (pCl B n (pItm B n p z)).2.1 (pCl B n (pItm B n p z)).2.2 else (false, tS B n (pCl B n (pItm B n p z)).2.1, z)
/-- the whole TEXT: ITEMs or FAULT, the nave -/
def pAll (B : Nat → Int32) (n : Nat) : rT := if (pFst B n 0).1 = true then pRd B n (n + 1) 1 (pFst B n 0).2.1 (pFst B n 0).2.2 else (false, tS B n (pFst B n 0).2.1, nBeg 0 0)
/-- the answer -/
def rA (r : rT) : Int32 := if r.1 = true then nI r.2.1 else (-10 : Int32) - nI r.2.1
theorem tT_0 {B : Nat → Int32} {n p : Nat} : tT B n p = 0 ↔ n ≤ tS B n p := by
  unfold tT
  by_cases q : n ≤ tS B n p
  · rw [if_pos q]; exact ⟨fun _ => q, fun _ => rfl⟩
  · rw [if_neg q]
    refine ⟨fun e => ?_, fun e => absurd e q⟩
    exfalso
    split at e
    · omega
    · split at e
      · split at e <;> omega
      · split at e <;> omega
theorem tT_le (B : Nat → Int32) (n p : Nat) : tT B n p ≤ 4 := by
  unfold tT
  split
  · omega
  · split
    · omega
    · split
      · split <;> omega
      · split <;> omega
theorem tSE (B : Nat → Int32) (n p : Nat) : tS B n p ≤ tE B n p := by
  by_cases q : tS B n p < n
  · exact Nat.le_of_lt (tE_gt q)
  · unfold tE; rw [if_pos (by omega)]; exact Nat.le_refl _
theorem tE_ge (B : Nat → Int32) (n p : Nat) : p ≤ tE B n p := Nat.le_trans tS_ge (tSE B n p)
theorem tE_gt2 {B : Nat → Int32} {n p : Nat} (h : ¬ tT B n p = 0) : p < tE B n p := by
  have : tS B n p < n := by
    refine Classical.byContradiction (fun q => h (tT_0.mpr (by omega)))
  have h1 := tE_gt this
  have h2 : p ≤ tS B n p := tS_ge
  omega
/-- at the TEXT's end the TOKEN is none -/
theorem tT_n {B : Nat → Int32} {n p : Nat} (h : n ≤ p) : tT B n p = 0 := tT_0.mpr (Nat.le_trans h tS_ge)
theorem isW_0 {B : Nat → Int32} {n p i : Nat} (hi : 1 ≤ i ∧ i < 5) (h : isW B n p 0) : ¬ isW B n p i := by
  obtain ⟨-, h1, h2⟩ := h
  rintro ⟨-, h3, h4⟩
  have e1 : tE B n p - tS B n p = 4 := h1
  rcases (show i = 1 ∨ i = 2 ∨ i = 3 ∨ i = 4 by omega) with rfl | rfl | rfl | rfl
  · have e2 : tE B n p - tS B n p = 5 := h3
    omega
  · have e2 : tE B n p - tS B n p = 3 := h3
    omega
  · have a := h2 0 (by decide)
    have b := h4 0 (by decide)
    rw [a] at b
    exact absurd b (by decide)
  · have e2 : tE B n p - tS B n p = 5 := h3
    omega
def rLe (n p : Nat) (r : rT) : Prop := p ≤ r.2.1 ∧ r.2.1 ≤ n
theorem pNav_le {B : Nat → Int32} {n p : Nat} (h : p ≤ n) : rLe n p (pNav B n p) := by
  have a1 := tE_ge B n p; have a2 : tE B n p ≤ n := tE_le h
  have b1 := tE_ge B n (tE B n p); have b2 : tE B n (tE B n p) ≤ n := tE_le a2
  unfold pNav rLe
  split
  · split
    · exact ⟨by show p ≤ tE B n (tE B n p); omega, b2⟩
    · exact ⟨a1, a2⟩
  · exact ⟨Nat.le_refl _, h⟩
theorem pSto_le {B : Nat → Int32} {n p : Nat} (z : nS) (h : p ≤ n) : rLe n p (pSto B n p z) := by
  have a1 := tE_ge B n p; have a2 : tE B n p ≤ n := tE_le h
  have b1 := tE_ge B n (tE B n p); have b2 : tE B n (tE B n p) ≤ n := tE_le a2
  unfold pSto rLe
  split
  · split
    · exact ⟨by show p ≤ tE B n (tE B n p); omega, b2⟩
    · exact ⟨a1, a2⟩
  · exact ⟨Nat.le_refl _, h⟩
theorem pSay_le {B : Nat → Int32} {n p : Nat} (z : nS) (h : p ≤ n) : rLe n p (pSay B n p z) := by
  have a1 := tE_ge B n p; have a2 : tE B n p ≤ n := tE_le h
  have b1 := tE_ge B n (tE B n p); have b2 : tE B n (tE B n p) ≤ n := tE_le a2
  unfold pSay rLe
  split
  · split
    · split
      · exact ⟨by show p ≤ tE B n (tE B n p); omega, b2⟩
      · exact ⟨a1, a2⟩
    · exact ⟨Nat.le_refl _, h⟩
  · exact ⟨Nat.le_refl _, h⟩
theorem pDrg_le {B : Nat → Int32} {n : Nat} : ∀ (f p : Nat) (z : nS), p ≤ n → rLe n p (pDrg B n f p z)
  | 0, p, z, h => ⟨Nat.le_refl _, h⟩
  | f + 1, p, z, h => by
    have a1 := tE_ge B n p; have a2 : tE B n p ≤ n := tE_le h
    simp only [pDrg]
    split
    · split
      · have := pDrg_le (B := B) f (tE B n p) (nStp z (bsN z.2.1 (nV B n p))) a2
        exact ⟨Nat.le_trans a1 this.1, this.2⟩
      · exact ⟨Nat.le_refl _, h⟩
    · exact ⟨Nat.le_refl _, h⟩
theorem pDra_le {B : Nat → Int32} {n p : Nat} (z : nS) (h : p ≤ n) : rLe n p (pDra B n p z) := by
  unfold pDra
  split
  · exact pDrg_le 9 p z h
  · exact ⟨Nat.le_refl _, h⟩
theorem pWee_le {B : Nat → Int32} {n p : Nat} (z : nS) (h : p ≤ n) : rLe n p (pWee B n p z) := by
  unfold pWee
  split
  · exact ⟨tE_ge B n p, tE_le h⟩
  · exact ⟨Nat.le_refl _, h⟩
theorem pItm_le {B : Nat → Int32} {n p : Nat} (z : nS) (h : p ≤ n) : rLe n p (pItm B n p z) := by
  have a1 := tE_ge B n p; have a2 : tE B n p ≤ n := tE_le h
  have T : ∀ r : rT, rLe n (tE B n p) r → rLe n p r := fun r H => ⟨Nat.le_trans a1 H.1, H.2⟩
  unfold pItm
  split
  · exact T _ (pSto_le z a2)
  · split
    · exact T _ (pSay_le z a2)
    · split
      · exact T _ (pDra_le z a2)
      · split
        · exact T _ (pWee_le z a2)
        · exact ⟨Nat.le_refl _, h⟩
theorem pCl_t {B : Nat → Int32} {n : Nat} {r : rT} (h1 : r.1 = true) (h2 : tT B n r.2.1 = 3) : pCl B n r = (true, tE B n r.2.1, r.2.2) := by unfold pCl; rw [if_pos h1, if_pos h2]
theorem pCl_f {B : Nat → Int32} {n : Nat} {r : rT} (h : ¬ (r.1 = true ∧ tT B n r.2.1 = 3)) : pCl B n r = (false, r.2.1, r.2.2) := by
  unfold pCl
  by_cases q : r.1 = true
  · rw [if_pos q, if_neg (fun w => h ⟨q, w⟩)]
  · rw [if_neg q]
theorem pCl_1 {B : Nat → Int32} {n : Nat} {r : rT} (h : (pCl B n r).1 = true) : r.1 = true ∧ tT B n r.2.1 = 3 := by
  refine Classical.byContradiction (fun q => ?_)
  rw [pCl_f q] at h
  cases h
/-- an ITEM that is ended has taken a byte -/
theorem pCl_gt {B : Nat → Int32} {n p : Nat} {r : rT} (H : rLe n p r) (h : (pCl B n r).1 = true) : p < (pCl B n r).2.1 ∧ (pCl B n r).2.1 ≤ n := by
  obtain ⟨h1, h2⟩ := pCl_1 h
  rw [pCl_t h1 h2]
  have := tE_gt2 (B := B) (n := n) (p := r.2.1) (by omega)
  exact ⟨Nat.lt_of_le_of_lt H.1 this, tE_le H.2⟩
theorem pCl_le {B : Nat → Int32} {n p : Nat} {r : rT} (H : rLe n p r) : (pCl B n r).2.1 ≤ n := by
  by_cases q : r.1 = true ∧ tT B n r.2.1 = 3
  · rw [pCl_t q.1 q.2]; exact tE_le H.2
  · rw [pCl_f q]; exact H.2
theorem pFst_le {B : Nat → Int32} {n p : Nat} (h : p ≤ n) : (pFst B n p).2.1 ≤ n := by
  unfold pFst
  split
  · exact pCl_le (pNav_le (tE_le h))
  · exact h
theorem pFst_gt {B : Nat → Int32} {n p : Nat} (h : p ≤ n) (h1 : (pFst B n p).1 = true) : p < (pFst B n p).2.1 := by
  unfold pFst at h1 ⊢
  split at h1
  · rename_i q
    rw [if_pos q]
    exact Nat.lt_of_le_of_lt (tE_ge B n p) (pCl_gt (pNav_le (tE_le h)) h1).1
  · cases h1
theorem pRd_e {B : Nat → Int32} {n f it p : Nat} {z : nS} (h : tT B n p = 0) : pRd B n (f + 1) it p z = (true, it, z) := if_pos h
theorem pRd_s {B : Nat → Int32} {n f it p : Nat} {z : nS} (h : ¬ tT B n p = 0) (h2 : (pCl B n (pItm B n p z)).1 = true) : pRd B n (f + 1) it p z = pRd B n f (it + 1) (pCl B n (pItm B n p z)).2.1 (pCl B n (pItm B n p z)).2.2 := by
  show (if tT B n p = 0 then _ else _) = _
  rw [if_neg h, if_pos h2]
theorem pRd_f {B : Nat → Int32} {n f it p : Nat} {z : nS} (h : ¬ tT B n p = 0) (h2 : ¬ (pCl B n (pItm B n p z)).1 = true) : pRd B n (f + 1) it p z = (false, tS B n (pCl B n (pItm B n p z)).2.1, z) := by
  show (if tT B n p = 0 then _ else _) = _
  rw [if_neg h, if_neg h2]
