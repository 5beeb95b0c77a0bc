/-! THE REFERENCE, 17: layToGo ends, and its rows hold the fewest STEPS -/
def v0 (D i : Nat) : Nat := if i / 25 = D then 0 else 1000000
def rV (m : Nat) (h : xI) (V : Nat → Nat) : Prop := ∀ i, i < 800 → h (m + 7) i = nI (V i)
def f7 (m : Nat) (h h' : xI) : Prop := ∀ q i, q ≠ m + 7 → h' q i = h q i
def rV0 (m D n : Nat) (h : xI) : Prop := ∀ i, i < n → h (m + 7) i = nI (v0 D i)
theorem rV0_s {m D n v : Nat} {h : xI} (H : rV0 m D n h) (hv : v = v0 D n) : rV0 m D (n + 1) (u2 h (m + 7) n (nI v)) := by
  intro i hi
  by_cases e : i = n
  · subst e; rw [u2_s, hv]
  · rw [u2_ne _ _ _ _ (by omega)]; exact H i (by omega)
theorem rV_u {m j v : Nat} {h : xI} {V : Nat → Nat} (H : rV m h V) : rV m (u2 h (m + 7) j (nI v)) (vu V j v) := by
  intro i hi
  by_cases e : i = j
  · subst e; rw [u2_s, vu_s]
  · rw [u2_ne _ _ _ _ (by omega), vu_n _ _ _ e]; exact H i hi
theorem f7_u {m j : Nat} {v : Int32} {h h' : xI} (H : f7 m h h') : f7 m h (u2 h' (m + 7) j v) := fun q i z => by
  rw [u2_ne _ _ _ _ (by omega)]; exact H q i z
def zS (s : Nat) (z : Int32) : Prop := (s = 0 ∧ z = (-1 : Int32)) ∨ ∃ e, s = e + 1 ∧ z = nI e
theorem zS_i {n : Nat} (h : 1 ≤ n) : zS (n) (nI n - nI 1) := Or.inr ⟨n - 1, by omega, pk_sub h⟩
theorem zS_1 {n : Nat} : zS (n) (if n = 0 then (-1 : Int32) else nI (n - 1)) := by
  by_cases e : n = 0
  · rw [if_pos e]; exact Or.inl ⟨e, rfl⟩
  · rw [if_neg e]; exact Or.inr ⟨n - 1, by omega, rfl⟩
theorem zS_d : ∀ e, e < 32 → (nI e + (-1 : Int32)) = (if e = 0 then (-1 : Int32) else nI (e - 1)) := by decide +kernel
theorem zS_e {e : Nat} (he : e < 32) : zS e (nI e + (-1)) := by
  have := zS_d e he
  show zS e (nI e + (-1 : Int32))
  rw [this]; exact zS_1
theorem zS_lt {s : Nat} {z : Int32} (H : zS s z) (hs : s < 2147483648) (h : z < 0) : s = 0 := by
  rcases H with ⟨q, -⟩ | ⟨e, q1, q2⟩
  · exact q
  · rw [q2] at h; exact absurd h (nI_pos (by omega))
theorem zS_ge {s : Nat} {z : Int32} (H : zS s z) (h : ¬ z < 0) : ∃ e, s = e + 1 ∧ z = nI e := by
  rcases H with ⟨-, q⟩ | q
  · rw [q] at h; exact absurd (by decide) h
  · exact q
def bI (V : Nat → Nat) (T : Nat → Int32) (N s : Nat) : Prop := (∀ i, V i ≤ 1000000) ∧ (∀ e c, e < s → c < 25 → V (25 * e + c) = 1000000) ∧ ∀ e c, s ≤ e → e ≤ p2 N - 1 → c < 25 → stl V T N e c
theorem bI_0 (T : Nat → Int32) (N : Nat) : bI (v0 (p2 N - 1)) T N (p2 N - 1) := by
  refine ⟨fun i => ?_, fun e c h1 h2 => ?_, fun e c h1 h2 h3 => ?_⟩
  · unfold v0; split <;> omega
  · unfold v0; rw [if_neg (by omega)]
  · have e1 : e = p2 N - 1 := by omega
    refine ⟨?_, Or.inl e1⟩
    unfold v0; rw [if_pos (by omega)]; omega
def cI (V V2 : Nat → Nat) (T : Nat → Int32) (N e : Nat) : Prop := (∀ i, V2 i ≤ 1000000) ∧ (∀ i, (i < 25 * e ∨ 25 * e + 25 ≤ i) → V2 i = V i) ∧ ∀ c, c < 25 → V2 (25 * e + c) = 1000000 ∨ wit V2 T N e c
theorem cI_0 {V : Nat → Nat} {T : Nat → Int32} {N e : Nat} (H : bI V T N (e + 1)) : cI V V T N e := ⟨H.1, fun _ _ => rfl, fun c hc => Or.inl (H.2.1 e c (by omega) hc)⟩
def dI (V2 V3 : Nat → Nat) (e : Nat) (b : Int32) : Prop := sm V3 e 25 ≤ sm V2 e 25 ∧ (¬ b = 0 → sm V3 e 25 < sm V2 e 25)
theorem dI_0 (V : Nat → Nat) (e : Nat) : dI V V e (nI 0) := ⟨Nat.le_refl _, fun z => absurd rfl z⟩
theorem cI_u {V V2 : Nat → Nat} {T : Nat → Int32} {N e c i : Nat} (H : cI V V2 T N e) (hc : c < 25) (hi : i < 4) (hb : bsN c i < 25) (hlt : 1 + V2 (25 * CM T N e (bsN c i) + bsN c i) < V2 (25 * e + c)) : cI V (vu V2 (25 * e + c) (1 + V2 (25 * CM T N e (bsN c i) + bsN c i))) T N e := by
  refine ⟨fun j => Nat.le_trans (vu_le (by omega) j) (H.1 j), fun j hj => ?_, fun c2 hc2 => wit_u hc hi hb hlt hc2 (H.2.2 c2 hc2)⟩
  rw [vu_n _ _ _ (by omega)]; exact H.2.1 j hj
theorem dI_u {V2 V3 : Nat → Nat} {e c v : Nat} {b : Int32} (H : dI V2 V3 e b) (hc : c < 25) (hv : v < V3 (25 * e + c)) (b' : Int32) : dI V2 (vu V3 (25 * e + c) v) e b' := by
  have := sm_lt hv 25 hc
  have := H.1
  exact ⟨by omega, fun _ => by omega⟩
theorem ex_e4 {V2 V3 : Nat → Nat} {e : Nat} {b : Int32} (H : dI V2 V3 e b) : ∃ e9, e9 ≤ 1 ∧ (e9 = 0 → b = 0) ∧ 2 * sm V3 e 25 + e9 + 1 ≤ 2 * sm V2 e 25 + 1 := by
  by_cases z : b = 0
  · exact ⟨0, by omega, fun _ => z, by have := H.1; omega⟩
  · exact ⟨1, by omega, fun q => by omega, by have := H.2 z; omega⟩
theorem stl_k {V V2 : Nat → Nat} {T : Nat → Int32} {N e e' c : Nat} (hN : N < 6) (H : ∀ i, (i < 25 * e ∨ 25 * e + 25 ≤ i) → V2 i = V i) (he : e < e') (he2 : e' ≤ p2 N - 1) (hc : c < 25) (S : stl V T N e' c) : stl V2 T N e' c := by
  obtain ⟨s1, s2⟩ := S
  refine ⟨by rw [H _ (by omega)]; exact s1, ?_⟩
  rcases s2 with q | ⟨i, h1, h2, h3⟩
  · exact Or.inl q
  · have : e' ≤ CM T N e' (bsN c i) := cm_ge T _ e' N
    exact Or.inr ⟨i, h1, h2, by rw [H _ (by omega), H (25 * CM T N e' (bsN c i) + bsN c i) (by omega)]; exact h3⟩
theorem bI_s {V V2 : Nat → Nat} {T : Nat → Int32} {N e : Nat} (hN : N < 6) (he : e + 1 ≤ p2 N - 1) (hT : ∀ k, k < N → ∃ t, t < 25 ∧ T k = nI t) (B : bI V T N (e + 1)) (C : cI V V2 T N e) (hs : ∀ c, c < 25 → ∀ i, i < 4 → sat V2 T N e c i) : bI V2 T N e := by
  have up : ∀ e', e < e' → e' ≤ p2 N - 1 → ∀ c, c < 25 → stl V2 T N e' c := fun e' h1 h2 c hc => stl_k hN C.2.1 h1 h2 hc (B.2.2 e' c (by omega) h2 hc)
  have me := wy_st hN (show e < p2 N - 1 by omega) hT up hs C.2.2
  refine ⟨C.1, fun e' c h1 h2 => ?_, fun e' c h1 h2 h3 => ?_⟩
  · rw [C.2.1 _ (by omega)]; exact B.2.1 e' c (by omega) h2
  · rcases Nat.lt_or_ge e e' with q | q
    · exact up e' q h2 c h3
    · rw [show e' = e by omega]; exact me c h3
theorem sat_s {P : Nat → Nat → Prop} {c i : Nat} (H : ∀ c' i', (c' < c ∨ (c' = c ∧ i' < i)) → i' < 4 → P c' i') (h1 : P c i) : ∀ c' i', (c' < c ∨ (c' = c ∧ i' < i + 1)) → i' < 4 → P c' i' := by
  intro c' i' z1 z2
  by_cases q : c' = c ∧ i' = i
  · obtain ⟨rfl, rfl⟩ := q; exact h1
  · exact H c' i' (by omega) z2
theorem bs_c {b c : Nat} (hc : c < 25) (h : nI c = (if b < 25 then nI b else (-1 : Int32))) : b = c := by
  by_cases q : b < 25
  · rw [if_pos q] at h; exact ((nI_eq (by omega) (by omega)).mp h).symm
  · rw [if_neg q] at h; exact absurd h (nI_nm (by omega))
theorem bs_m {b : Nat} (h : (-1 : Int32) = (if b < 25 then nI b else (-1 : Int32))) : ¬ b < 25 := by
  intro q
  rw [if_pos q] at h; exact nI_nm (by omega) h.symm
theorem cm_b {T : Nat → Int32} {c : Int32} {N e : Nat} (hN : N < 6) (he : e < p2 N) : cmN T c N e < 32 := by
  have h1 := cm_lt T c (N := N) (show e < 2 ^ N from he) N (Nat.le_refl _)
  have h2 := (p2_e N hN).2.1
  have : p2 N = 2 ^ N := rfl
  omega
theorem d1_e : ∀ N, N < 6 → nI (p2 N - 1) - nI 1 = (if p2 N - 1 = 0 then (-1 : Int32) else nI (p2 N - 1 - 1)) := by decide +kernel
set_option maxHeartbeats 4000000 in
set_option maxRecDepth 100000 in
theorem ct_X8_layToGo {l : Launch} {w : Kw} (hw : wOk w) {m : Nat} (hM : shM w m) {T : Nat → Int32} {N : Nat} (hN : N < 6) (hTc : ∀ k, k < N → ∃ t, t < 25 ∧ T k = nI t) (h : xI) (g : xJ) (hT : h (m + 6) = T) : Ct l w yX8_layToGo cX8_layToGo 9 none 2 48 [.ref (wA w (m)), .int (nI (N))] h g (pQv (fun h' => f7 m h h' ∧ ∃ V, rV m h' V ∧ bI V T N 0)) := by
  refine Ct_of (ls := [some (.ref (wA w (m))), some (.int (nI (N))), none, none, none, none, none, none, none]) (by decide) hw (Nat.le_of_ble_eq_true rfl) rfl (fun k hkl C => ?_)
  have C : Cx k w cX8_layToGo RX8 9 none 2 48 := C
  have D := dtX8_layToGo
  subst hkl
  have hM0 := hM
  obtain ⟨hm, hsm, hs1, hs2, hs3, hs4, hs5, hs6, hs7, hs8, hs9, hs10, hs11⟩ := hM
  have hM := hM0
  have hp2 := p2_e N (by omega)
  have zs0 := zS_1 (n := p2 (N) - 1)
  refine X_iconst (v := nI (1)) C (D (0, .iconst 1, 1) (mg 0 rfl)) (by decide) ?_
  refine X_iload_n C 1 (D (1, .iload_n 1, 1) (mg 1 rfl)) rfl rfl ?_
  refine X_ishl C (D (2, .ishl, 1) (mg 2 rfl)) ?_
  refine X_ti (y := nI (p2 (N))) (p2_e N (by omega)).2.2 ?_
  refine X_iconst (v := nI (1)) C (D (3, .iconst 1, 1) (mg 3 rfl)) (by decide) ?_
  refine X_isub C (D (4, .isub, 1) (mg 4 rfl)) ?_
  refine X_ti (y := nI (p2 (N) - 1)) (pk_sub (by omega)) ?_
  refine X_istore_n (ls' := [some (.ref (wA w (m))), some (.int (nI (N))), some (.int (nI (p2 (N) - 1))), none, none, none, none, none, none]) C 2 (D (5, .istore_n 2, 1) (mg 5 rfl)) rfl (Nat.le_of_ble_eq_true rfl) rfl ?_
  refine X_iconst (v := nI (0)) C (D (6, .iconst 0, 1) (mg 6 rfl)) (by decide) ?_
  refine X_istore_n (ls' := [some (.ref (wA w (m))), some (.int (nI (N))), some (.int (nI (p2 (N) - 1))), some (.int (nI (0))), none, none, none, none, none]) C 3 (D (7, .istore_n 3, 1) (mg 7 rfl)) rfl (Nat.le_of_ble_eq_true rfl) rfl ?_
  have lp8 : ∀ (nn8 : Nat) (k3 : Nat) (hp8 : xI), (k3 ≤ 800) → (rV0 m (p2 (N) - 1) k3 hp8) → (f7 m h hp8) → 801 - k3 ≤ nn8 → X k w (Zq k w (pQv (fun h' => f7 m h h' ∧ ∃ V, rV m h' V ∧ bI V T N 0))) 8 [some (.ref (wA w (m))), some (.int (nI (N))), some (.int (nI (p2 (N) - 1))), some (.int (nI (k3))), none, none, none, none, none] [] hp8 g := by
    intro nn8
    induction nn8 with
    | zero => intro k3 hp8 hc8_0 hc8_1 hc8_2 hz; exact absurd hz (by omega)
    | succ nn8 ih8 =>
      intro k3 hp8 hc8_0 hc8_1 hc8_2 hz8
      refine X_iload_n C 3 (D (8, .iload_n 3, 1) (mg 8 rfl)) rfl rfl ?_
      refine X_sipush (v := nI (800)) C (D (9, .sipush 800, 3) (mg 9 rfl)) (by decide) ?_
      refine X_icmp_ge (tgt := 41) C (D (12, .if_icmp .ge 29, 3) (mg 10 rfl)) (by decide) (fun q1 => ?_) (fun q1 => ?_)
      · skip
        have q1 : (k3) ≥ (800) := by have z := (nI_leI (a := (800)) (b := (k3)) (by omega) (by omega)).mp q1; omega
        refine X_iload_n C 2 (D (41, .iload_n 2, 1) (mg 25 rfl)) rfl rfl ?_
        refine X_iconst (v := nI (1)) C (D (42, .iconst 1, 1) (mg 26 rfl)) (by decide) ?_
        refine X_isub C (D (43, .isub, 1) (mg 27 rfl)) ?_
        refine X_ti (y := (if p2 (N) - 1 = 0 then (-1 : Int32) else nI (p2 (N) - 1 - 1))) (d1_e N (by omega)) ?_
        refine X_istore_n (ls' := [some (.ref (wA w (m))), some (.int (nI (N))), some (.int (nI (p2 (N) - 1))), some (.int ((if p2 (N) - 1 = 0 then (-1 : Int32) else nI (p2 (N) - 1 - 1)))), none, none, none, none, none]) C 3 (D (44, .istore_n 3, 1) (mg 28 rfl)) rfl (Nat.le_of_ble_eq_true rfl) rfl ?_
        have lp45 : ∀ (nn45 : Nat) (s1 : Nat) (V : Nat → Nat) (z3 : Int32) (hp45 : xI), (s1 ≤ p2 (N) - 1) → (zS s1 z3) → (rV m hp45 V) → (f7 m h hp45) → (bI V T N s1) → s1 + 1 ≤ nn45 → X k w (Zq k w (pQv (fun h' => f7 m h h' ∧ ∃ V, rV m h' V ∧ bI V T N 0))) 45 [some (.ref (wA w (m))), some (.int (nI (N))), some (.int (nI (p2 (N) - 1))), some (.int (z3)), none, none, none, none, none] [] hp45 g := by
          intro nn45
          induction nn45 with
          | zero => intro s1 V z3 hp45 hc45_0 hc45_1 hc45_2 hc45_3 hc45_4 hz; exact absurd hz (by omega)
          | succ nn45 ih45 =>
            intro s1 V z3 hp45 hc45_0 hc45_1 hc45_2 hc45_3 hc45_4 hz45
            refine X_iload_n C 3 (D (45, .iload_n 3, 1) (mg 29 rfl)) rfl rfl ?_
            refine X_if_lt (tgt := 177) C (D (46, .ifCond .lt 131, 3) (mg 30 rfl)) (by decide) (fun q2 => ?_) (fun q2 => ?_)
            · skip
              have hs0 := zS_lt hc45_1 (by omega) q2
              exact X_vret C (D (177, .return_, 1) (mg 99 rfl)) ⟨rfl, hc45_3, V, hc45_2, by rw [hs0] at hc45_4; exact hc45_4⟩
            · skip
              obtain ⟨e1, he1, rfl⟩ := zS_ge hc45_1 q2
              subst he1
              refine X_iconst (v := nI (1)) C (D (49, .iconst 1, 1) (mg 31 rfl)) (by decide) ?_
              refine X_istore (ls' := [some (.ref (wA w (m))), some (.int (nI (N))), some (.int (nI (p2 (N) - 1))), some (.int (nI (e1))), some (.int (nI (1))), none, none, none, none]) C (D (50, .istore 4, 2) (mg 32 rfl)) (Nat.le_of_ble_eq_true rfl) rfl ?_
              have lp52 : ∀ (nn52 : Nat) (e4 : Nat) (V2 : Nat → Nat) (b4 : Int32) (hp52 : xI), (e4 ≤ 1) → (e4 = 0 → b4 = 0) → (rV m hp52 V2) → (f7 m h hp52) → (cI V V2 T N e1) → (b4 = 0 → ∀ c, c < 25 → ∀ i, i < 4 → sat V2 T N e1 c i) → 2 * sm V2 e1 25 + e4 + 1 ≤ nn52 → X k w (Zq k w (pQv (fun h' => f7 m h h' ∧ ∃ V, rV m h' V ∧ bI V T N 0))) 52 [some (.ref (wA w (m))), some (.int (nI (N))), some (.int (nI (p2 (N) - 1))), some (.int (nI (e1))), some (.int (b4)), none, none, none, none] [] hp52 g := by
                intro nn52
                induction nn52 with
                | zero => intro e4 V2 b4 hp52 hc52_0 hc52_1 hc52_2 hc52_3 hc52_4 hc52_5 hz; exact absurd hz (by omega)
                | succ nn52 ih52 =>
                  intro e4 V2 b4 hp52 hc52_0 hc52_1 hc52_2 hc52_3 hc52_4 hc52_5 hz52
                  refine X_iload C (D (52, .iload 4, 2) (mg 33 rfl)) rfl ?_
                  refine X_if_eq (tgt := 171) C (D (54, .ifCond .eq 117, 3) (mg 34 rfl)) (by decide) (fun q3 => ?_) (fun q3 => ?_)
                  · skip
                    refine X_iinc (v := nI (e1) + (-1)) (ls' := [some (.ref (wA w (m))), some (.int (nI (N))), some (.int (nI (p2 (N) - 1))), some (.int (nI (e1) + (-1))), some (.int (b4)), none, none, none, none]) C (D (171, .iinc 3 (-1), 3) (mg 97 rfl)) rfl rfl rfl ?_
                    refine X_goto (tgt := 45) C (D (174, .goto (-129), 3) (mg 98 rfl)) (by decide) ?_
                    refine X_los (ls' := [some (.ref (wA w (m))), some (.int (nI (N))), some (.int (nI (p2 (N) - 1))), some (.int (nI (e1) + (-1))), none, none, none, none, none]) (by simp [lsub]) ?_
                    refine X_eq (ls' := [some (.ref (wA w (m))), some (.int (nI (N))), some (.int (nI (p2 (N) - 1))), some (.int (nI (e1) + (-1))), none, none, none, none, none]) (st' := []) (h' := hp52) (g' := g) rfl rfl rfl rfl ?_
                    exact ih45 (e1) (V2) (nI (e1) + (-1)) (hp52) (by omega) (zS_e (by omega)) hc52_2 hc52_3 (bI_s (by omega) (by omega) hTc hc45_4 hc52_4 (hc52_5 (by assumption))) (by omega)
                  · skip
                    have he4 : ¬ e4 = 0 := fun z => (by assumption : ¬ b4 = 0) (hc52_1 z)
                    refine X_iconst (v := nI (0)) C (D (57, .iconst 0, 1) (mg 35 rfl)) (by decide) ?_
                    refine X_istore (ls' := [some (.ref (wA w (m))), some (.int (nI (N))), some (.int (nI (p2 (N) - 1))), some (.int (nI (e1))), some (.int (nI (0))), none, none, none, none]) C (D (58, .istore 4, 2) (mg 36 rfl)) (Nat.le_of_ble_eq_true rfl) rfl ?_
                    refine X_iconst (v := nI (0)) C (D (60, .iconst 0, 1) (mg 37 rfl)) (by decide) ?_
                    refine X_istore (ls' := [some (.ref (wA w (m))), some (.int (nI (N))), some (.int (nI (p2 (N) - 1))), some (.int (nI (e1))), some (.int (nI (0))), some (.int (nI (0))), none, none, none]) C (D (61, .istore 5, 2) (mg 38 rfl)) (Nat.le_of_ble_eq_true rfl) rfl ?_
                    have lp63 : ∀ (nn63 : Nat) (V3 : Nat → Nat) (c5 : Nat) (b5 : Int32) (hp63 : xI), (c5 ≤ 25) → (rV m hp63 V3) → (f7 m h hp63) → (cI V V3 T N e1) → (dI V2 V3 e1 b5) → (b5 = 0 → ∀ c' i', c' < c5 → i' < 4 → sat V3 T N e1 c' i') → 26 - c5 ≤ nn63 → X k w (Zq k w (pQv (fun h' => f7 m h h' ∧ ∃ V, rV m h' V ∧ bI V T N 0))) 63 [some (.ref (wA w (m))), some (.int (nI (N))), some (.int (nI (p2 (N) - 1))), some (.int (nI (e1))), some (.int (b5)), some (.int (nI (c5))), none, none, none] [] hp63 g := by
                      intro nn63
                      induction nn63 with
                      | zero => intro V3 c5 b5 hp63 hc63_0 hc63_1 hc63_2 hc63_3 hc63_4 hc63_5 hz; exact absurd hz (by omega)
                      | succ nn63 ih63 =>
                        intro V3 c5 b5 hp63 hc63_0 hc63_1 hc63_2 hc63_3 hc63_4 hc63_5 hz63
                        refine X_iload C (D (63, .iload 5, 2) (mg 39 rfl)) rfl ?_
                        refine X_bipush (v := nI (25)) C (D (65, .bipush 25, 2) (mg 40 rfl)) (by decide) ?_
                        refine X_icmp_ge (tgt := 168) C (D (67, .if_icmp .ge 101, 3) (mg 41 rfl)) (by decide) (fun q4 => ?_) (fun q4 => ?_)
                        · skip
                          have q4 : (c5) ≥ (25) := by have z := (nI_leI (a := (25)) (b := (c5)) (by omega) (by omega)).mp q4; omega
                          obtain ⟨e9, he9, hb9, hm9⟩ := ex_e4 hc63_4
                          refine X_goto (tgt := 52) C (D (168, .goto (-116), 3) (mg 96 rfl)) (by decide) ?_
                          refine X_los (ls' := [some (.ref (wA w (m))), some (.int (nI (N))), some (.int (nI (p2 (N) - 1))), some (.int (nI (e1))), some (.int (b5)), none, none, none, none]) (by simp [lsub]) ?_
                          refine X_eq (ls' := [some (.ref (wA w (m))), some (.int (nI (N))), some (.int (nI (p2 (N) - 1))), some (.int (nI (e1))), some (.int (b5)), none, none, none, none]) (st' := []) (h' := hp63) (g' := g) rfl rfl rfl rfl ?_
                          exact ih52 (e9) (V3) (b5) (hp63) (by omega) hb9 hc63_1 hc63_2 hc63_3 (fun z c hc i hi => hc63_5 z c i (by omega) hi) (by omega)
                        · skip
                          have q4 : (c5) < (25) := by have z : ¬ ((25) ≤ (c5)) := fun u => q4 ((nI_leI (a := (25)) (b := (c5)) (by omega) (by omega)).mpr u); omega
                          refine X_iconst (v := nI (0)) C (D (70, .iconst 0, 1) (mg 42 rfl)) (by decide) ?_
                          refine X_istore (ls' := [some (.ref (wA w (m))), some (.int (nI (N))), some (.int (nI (p2 (N) - 1))), some (.int (nI (e1))), some (.int (b5)), some (.int (nI (c5))), some (.int (nI (0))), none, none]) C (D (71, .istore 6, 2) (mg 43 rfl)) (Nat.le_of_ble_eq_true rfl) rfl ?_
                          have lp73 : ∀ (nn73 : Nat) (V4 : Nat → Nat) (i6_ : Nat) (b6 : Int32) (hp73 : xI), (i6_ ≤ 4) → (rV m hp73 V4) → (f7 m h hp73) → (cI V V4 T N e1) → (dI V2 V4 e1 b6) → (b6 = 0 → ∀ c' i', (c' < c5 ∨ (c' = c5 ∧ i' < i6_)) → i' < 4 → sat V4 T N e1 c' i') → 5 - i6_ ≤ nn73 → X k w (Zq k w (pQv (fun h' => f7 m h h' ∧ ∃ V, rV m h' V ∧ bI V T N 0))) 73 [some (.ref (wA w (m))), some (.int (nI (N))), some (.int (nI (p2 (N) - 1))), some (.int (nI (e1))), some (.int (b6)), some (.int (nI (c5))), some (.int (nI (i6_))), none, none] [] hp73 g := by
                            intro nn73
                            induction nn73 with
                            | zero => intro V4 i6_ b6 hp73 hc73_0 hc73_1 hc73_2 hc73_3 hc73_4 hc73_5 hz; exact absurd hz (by omega)
                            | succ nn73 ih73 =>
                              intro V4 i6_ b6 hp73 hc73_0 hc73_1 hc73_2 hc73_3 hc73_4 hc73_5 hz73
                              refine X_iload C (D (73, .iload 6, 2) (mg 44 rfl)) rfl ?_
                              refine X_iconst (v := nI (4)) C (D (75, .iconst 4, 1) (mg 45 rfl)) (by decide) ?_
                              refine X_icmp_ge (tgt := 162) C (D (76, .if_icmp .ge 86, 3) (mg 46 rfl)) (by decide) (fun q5 => ?_) (fun q5 => ?_)
                              · skip
                                have q5 : (i6_) ≥ (4) := by have z := (nI_leI (a := (4)) (b := (i6_)) (by omega) (by omega)).mp q5; omega
                                refine X_iinc (v := nI (c5 + 1)) (ls' := [some (.ref (wA w (m))), some (.int (nI (N))), some (.int (nI (p2 (N) - 1))), some (.int (nI (e1))), some (.int (b6)), some (.int (nI (c5 + 1))), some (.int (nI (i6_))), none, none]) C (D (162, .iinc 5 1, 3) (mg 94 rfl)) rfl (nI_add (c5) 1) rfl ?_
                                refine X_goto (tgt := 63) C (D (165, .goto (-102), 3) (mg 95 rfl)) (by decide) ?_
                                refine X_los (ls' := [some (.ref (wA w (m))), some (.int (nI (N))), some (.int (nI (p2 (N) - 1))), some (.int (nI (e1))), some (.int (b6)), some (.int (nI (c5 + 1))), none, none, none]) (by simp [lsub]) ?_
                                refine X_eq (ls' := [some (.ref (wA w (m))), some (.int (nI (N))), some (.int (nI (p2 (N) - 1))), some (.int (nI (e1))), some (.int (b6)), some (.int (nI (c5 + 1))), none, none, none]) (st' := []) (h' := hp73) (g' := g) rfl rfl rfl rfl ?_
                                exact ih63 (V4) (c5 + 1) (b6) (hp73) (by omega) hc73_1 hc73_2 hc73_3 hc73_4 (fun z c' i' z1 z2 => hc73_5 z c' i' (by omega) z2) (by omega)
                              · skip
                                have q5 : (i6_) < (4) := by have z : ¬ ((4) ≤ (i6_)) := fun u => q5 ((nI_leI (a := (4)) (b := (i6_)) (by omega) (by omega)).mpr u); omega
                                refine X_iload C (D (79, .iload 5, 2) (mg 47 rfl)) rfl ?_
                                refine X_iload C (D (81, .iload 6, 2) (mg 48 rfl)) rfl ?_
                                refine X_cS (As := [.int (nI (c5)), .int (nI (i6_))]) (st := []) C (post := _) (ct_X8_beside hw (j := c5) (by omega) (nI (i6_)) hp73 g) kX8_110 (by decide) (by decide) rfl rfl (Nat.le_of_ble_eq_true rfl) (D (83, .invokestatic 110, 3) (mg 49 rfl)) rfl (fun v8 H6 G7 hv8 => ?_)
                                obtain ⟨rfl, rfl, rfl⟩ := hv8
                                obtain ⟨y9, ey9⟩ : ∃ y, y = bsA (c5) (nI (i6_)) := ⟨_, rfl⟩
                                have hy9 := bsA_alt (j := c5) (by omega) (nI (i6_))
                                rw [← ey9] at hy9
                                rw [← ey9]
                                show X k w _ 86 [some (.ref (wA w (m))), some (.int (nI (N))), some (.int (nI (p2 (N) - 1))), some (.int (nI (e1))), some (.int (b6)), some (.int (nI (c5))), some (.int (nI (i6_))), none, none] [.int (y9)] hp73 g
                                refine X_istore (ls' := [some (.ref (wA w (m))), some (.int (nI (N))), some (.int (nI (p2 (N) - 1))), some (.int (nI (e1))), some (.int (b6)), some (.int (nI (c5))), some (.int (nI (i6_))), some (.int (y9)), none]) C (D (86, .istore 7, 2) (mg 50 rfl)) (Nat.le_of_ble_eq_true rfl) rfl ?_
                                refine X_iload C (D (88, .iload 7, 2) (mg 51 rfl)) rfl ?_
                                refine X_iconst (v := (-1 : Int32)) C (D (90, .iconst (-1), 1) (mg 52 rfl)) (by decide) ?_
                                refine X_icmp_ne (tgt := 99) C (D (91, .if_icmp .ne 8, 3) (mg 53 rfl)) (by decide) (fun q10 => ?_) (fun q10 => ?_)
                                · skip
                                  obtain ⟨c11, hc11, rfl⟩ := hy9.resolve_left q10
                                  rw [bs_all c5 (by omega) i6_ (by omega)] at ey9
                                  have hbc := bs_c (by omega) ey9
                                  refine X_iconst (v := nI (1)) C (D (99, .iconst 1, 1) (mg 56 rfl)) (by decide) ?_
                                  refine X_aload_n C 0 (D (100, .aload_n 0, 1) (mg 57 rfl)) rfl rfl ?_
                                  refine X_get (v := .ref (wA w (m + 7))) C (m) 8 (by omega) hsm rfl rfl (by decide) inX8 fX8_33 rfl (D (101, .getfield 33, 3) (mg 58 rfl)) rfl ?_
                                  refine X_bipush (v := nI (25)) C (D (104, .bipush 25, 2) (mg 59 rfl)) (by decide) ?_
                                  refine X_aload_n C 0 (D (106, .aload_n 0, 1) (mg 60 rfl)) rfl rfl ?_
                                  refine X_iload_n C 3 (D (107, .iload_n 3, 1) (mg 61 rfl)) rfl rfl ?_
                                  refine X_iload C (D (108, .iload 7, 2) (mg 62 rfl)) rfl ?_
                                  refine X_iload_n C 1 (D (110, .iload_n 1, 1) (mg 63 rfl)) rfl rfl ?_
                                  refine X_cV (As := [.int (nI (e1)), .int (nI (c11)), .int (nI (N))]) (st := [.int (nI (25)), .ref (wA w (m + 7)), .int (nI (1))]) C (post := _) (m) (by omega) hsm rfl (ct_X8_come hw hM (T := T) (S := e1) (N := N) (by omega) (nI (c11)) (by omega) hp73 g ((funext fun i => hc73_2 (m + 6) i (by omega)).trans hT)) kX8_163 (by decide) (by decide) rfl rfl (Nat.le_of_ble_eq_true rfl) (D (111, .invokevirtual 163, 3) (mg 64 rfl)) rfl (fun v14 H12 G13 hv14 => ?_)
                                  obtain ⟨rfl, rfl, rfl⟩ := hv14
                                  show X k w _ 114 [some (.ref (wA w (m))), some (.int (nI (N))), some (.int (nI (p2 (N) - 1))), some (.int (nI (e1))), some (.int (b6)), some (.int (nI (c5))), some (.int (nI (i6_))), some (.int (nI (c11))), none] [.int (nI (cmN T (nI (c11)) (N) (e1))), .int (nI (25)), .ref (wA w (m + 7)), .int (nI (1))] hp73 g
                                  have hcm : cmN T (nI (c11)) (N) (e1) < 32 := cm_b (by omega) (by omega)
                                  refine X_imul C (D (114, .imul, 1) (mg 65 rfl)) ?_
                                  refine X_ti (y := nI ((25) * (cmN T (nI (c11)) (N) (e1)))) (pk_mul (25) (cmN T (nI (c11)) (N) (e1))) ?_
                                  refine X_iload C (D (115, .iload 7, 2) (mg 66 rfl)) rfl ?_
                                  refine X_iadd C (D (117, .iadd, 1) (mg 67 rfl)) ?_
                                  refine X_ti (y := nI ((25) * (cmN T (nI (c11)) (N) (e1)) + c11)) (nI_add ((25) * (cmN T (nI (c11)) (N) (e1))) (c11)) ?_
                                  refine X_iald (v := hp73 (m + 7) ((25) * (cmN T (nI (c11)) (N) (e1)) + c11)) C (m + 7) (by omega) hs7 (vp_in_nI (by omega) (by omega)) (D (118, .iaload, 1) (mg 68 rfl)) (by rw [nI_clamp (by omega)]) ?_
                                  refine X_ti (y := nI (V4 ((25) * (cmN T (nI (c11)) (N) (e1)) + c11))) (hc73_1 _ (by omega)) ?_
                                  refine X_iadd C (D (119, .iadd, 1) (mg 69 rfl)) ?_
                                  refine X_ti (y := nI (1 + V4 ((25) * (cmN T (nI (c11)) (N) (e1)) + c11))) (nI_add (1) (V4 ((25) * (cmN T (nI (c11)) (N) (e1)) + c11))) ?_
                                  refine X_istore (ls' := [some (.ref (wA w (m))), some (.int (nI (N))), some (.int (nI (p2 (N) - 1))), some (.int (nI (e1))), some (.int (b6)), some (.int (nI (c5))), some (.int (nI (i6_))), some (.int (nI (c11))), some (.int (nI (1 + V4 ((25) * (cmN T (nI (c11)) (N) (e1)) + c11))))]) C (D (120, .istore 8, 2) (mg 70 rfl)) (Nat.le_of_ble_eq_true rfl) rfl ?_
                                  refine X_iload C (D (122, .iload 8, 2) (mg 71 rfl)) rfl ?_
                                  refine X_aload_n C 0 (D (124, .aload_n 0, 1) (mg 72 rfl)) rfl rfl ?_
                                  refine X_get (v := .ref (wA w (m + 7))) C (m) 8 (by omega) hsm rfl rfl (by decide) inX8 fX8_33 rfl (D (125, .getfield 33, 3) (mg 73 rfl)) rfl ?_
                                  refine X_bipush (v := nI (25)) C (D (128, .bipush 25, 2) (mg 74 rfl)) (by decide) ?_
                                  refine X_iload_n C 3 (D (130, .iload_n 3, 1) (mg 75 rfl)) rfl rfl ?_
                                  refine X_imul C (D (131, .imul, 1) (mg 76 rfl)) ?_
                                  refine X_ti (y := nI ((25) * (e1))) (pk_mul (25) (e1)) ?_
                                  refine X_iload C (D (132, .iload 5, 2) (mg 77 rfl)) rfl ?_
                                  refine X_iadd C (D (134, .iadd, 1) (mg 78 rfl)) ?_
                                  refine X_ti (y := nI ((25) * (e1) + c5)) (nI_add ((25) * (e1)) (c5)) ?_
                                  refine X_iald (v := hp73 (m + 7) ((25) * (e1) + c5)) C (m + 7) (by omega) hs7 (vp_in_nI (by omega) (by omega)) (D (135, .iaload, 1) (mg 79 rfl)) (by rw [nI_clamp (by omega)]) ?_
                                  refine X_ti (y := nI (V4 ((25) * (e1) + c5))) (hc73_1 _ (by omega)) ?_
                                  have hv0 := hc73_3.1 ((25) * (e1) + c5)
                                  have hv1 := hc73_3.1 ((25) * (cmN T (nI (c11)) (N) (e1)) + c11)
                                  refine X_icmp_ge (tgt := 156) C (D (136, .if_icmp .ge 20, 3) (mg 80 rfl)) (by decide) (fun q15 => ?_) (fun q15 => ?_)
                                  · skip
                                    have q15 : (1 + V4 ((25) * (cmN T (nI (c11)) (N) (e1)) + c11)) ≥ (V4 ((25) * (e1) + c5)) := by have z := (nI_leI (a := (V4 ((25) * (e1) + c5))) (b := (1 + V4 ((25) * (cmN T (nI (c11)) (N) (e1)) + c11))) (by omega) (by omega)).mp q15; omega
                                    have hsat9 : sat V4 T N e1 c5 i6_ := fun z => by (rw [hbc]; show V4 (25 * e1 + c5) ≤ 1 + V4 (25 * cmN T (nI c11) N e1 + c11); omega)
                                    refine X_iinc (v := nI (i6_ + 1)) (ls' := [some (.ref (wA w (m))), some (.int (nI (N))), some (.int (nI (p2 (N) - 1))), some (.int (nI (e1))), some (.int (b6)), some (.int (nI (c5))), some (.int (nI (i6_ + 1))), some (.int (nI (c11))), some (.int (nI (1 + V4 ((25) * (cmN T (nI (c11)) (N) (e1)) + c11))))]) C (D (156, .iinc 6 1, 3) (mg 92 rfl)) rfl (nI_add (i6_) 1) rfl ?_
                                    refine X_goto (tgt := 73) C (D (159, .goto (-86), 3) (mg 93 rfl)) (by decide) ?_
                                    refine X_los (ls' := [some (.ref (wA w (m))), some (.int (nI (N))), some (.int (nI (p2 (N) - 1))), some (.int (nI (e1))), some (.int (b6)), some (.int (nI (c5))), some (.int (nI (i6_ + 1))), none, none]) (by simp [lsub]) ?_
                                    refine X_eq (ls' := [some (.ref (wA w (m))), some (.int (nI (N))), some (.int (nI (p2 (N) - 1))), some (.int (nI (e1))), some (.int (b6)), some (.int (nI (c5))), some (.int (nI (i6_ + 1))), none, none]) (st' := []) (h' := hp73) (g' := g) rfl rfl rfl rfl ?_
                                    exact ih73 (V4) (i6_ + 1) (b6) (hp73) (by omega) hc73_1 hc73_2 hc73_3 hc73_4 (fun z => sat_s (P := sat V4 T N e1) (hc73_5 z) hsat9) (by omega)
                                  · skip
                                    have q15 : (1 + V4 ((25) * (cmN T (nI (c11)) (N) (e1)) + c11)) < (V4 ((25) * (e1) + c5)) := by have z : ¬ ((V4 ((25) * (e1) + c5)) ≤ (1 + V4 ((25) * (cmN T (nI (c11)) (N) (e1)) + c11))) := fun u => q15 ((nI_leI (a := (V4 ((25) * (e1) + c5))) (b := (1 + V4 ((25) * (cmN T (nI (c11)) (N) (e1)) + c11))) (by omega) (by omega)).mpr u); omega
                                    have hltv : 1 + V4 (25 * CM T N e1 (bsN c5 i6_) + bsN c5 i6_) < V4 (25 * e1 + c5) := by (rw [hbc]; show 1 + V4 (25 * cmN T (nI c11) N e1 + c11) < _; omega)
                                    refine X_aload_n C 0 (D (139, .aload_n 0, 1) (mg 81 rfl)) rfl rfl ?_
                                    refine X_get (v := .ref (wA w (m + 7))) C (m) 8 (by omega) hsm rfl rfl (by decide) inX8 fX8_33 rfl (D (140, .getfield 33, 3) (mg 82 rfl)) rfl ?_
                                    refine X_bipush (v := nI (25)) C (D (143, .bipush 25, 2) (mg 83 rfl)) (by decide) ?_
                                    refine X_iload_n C 3 (D (145, .iload_n 3, 1) (mg 84 rfl)) rfl rfl ?_
                                    refine X_imul C (D (146, .imul, 1) (mg 85 rfl)) ?_
                                    refine X_ti (y := nI ((25) * (e1))) (pk_mul (25) (e1)) ?_
                                    refine X_iload C (D (147, .iload 5, 2) (mg 86 rfl)) rfl ?_
                                    refine X_iadd C (D (149, .iadd, 1) (mg 87 rfl)) ?_
                                    refine X_ti (y := nI ((25) * (e1) + c5)) (nI_add ((25) * (e1)) (c5)) ?_
                                    refine X_iload C (D (150, .iload 8, 2) (mg 88 rfl)) rfl ?_
                                    refine X_iast (j := (25) * (e1) + c5) C (m + 7) (by omega) hs7 (vp_in_nI (by omega) (by omega)) (D (152, .iastore, 1) (mg 89 rfl)) (nI_clamp (by omega)) ?_
                                    refine X_iconst (v := nI (1)) C (D (153, .iconst 1, 1) (mg 90 rfl)) (by decide) ?_
                                    refine X_istore (ls' := [some (.ref (wA w (m))), some (.int (nI (N))), some (.int (nI (p2 (N) - 1))), some (.int (nI (e1))), some (.int (nI (1))), some (.int (nI (c5))), some (.int (nI (i6_))), some (.int (nI (c11))), some (.int (nI (1 + V4 ((25) * (cmN T (nI (c11)) (N) (e1)) + c11))))]) C (D (154, .istore 4, 2) (mg 91 rfl)) (Nat.le_of_ble_eq_true rfl) rfl ?_
                                    refine X_iinc (v := nI (i6_ + 1)) (ls' := [some (.ref (wA w (m))), some (.int (nI (N))), some (.int (nI (p2 (N) - 1))), some (.int (nI (e1))), some (.int (nI (1))), some (.int (nI (c5))), some (.int (nI (i6_ + 1))), some (.int (nI (c11))), some (.int (nI (1 + V4 ((25) * (cmN T (nI (c11)) (N) (e1)) + c11))))]) C (D (156, .iinc 6 1, 3) (mg 92 rfl)) rfl (nI_add (i6_) 1) rfl ?_
                                    refine X_goto (tgt := 73) C (D (159, .goto (-86), 3) (mg 93 rfl)) (by decide) ?_
                                    refine X_los (ls' := [some (.ref (wA w (m))), some (.int (nI (N))), some (.int (nI (p2 (N) - 1))), some (.int (nI (e1))), some (.int (nI (1))), some (.int (nI (c5))), some (.int (nI (i6_ + 1))), none, none]) (by simp [lsub]) ?_
                                    refine X_eq (ls' := [some (.ref (wA w (m))), some (.int (nI (N))), some (.int (nI (p2 (N) - 1))), some (.int (nI (e1))), some (.int (nI (1))), some (.int (nI (c5))), some (.int (nI (i6_ + 1))), none, none]) (st' := []) (h' := (u2 hp73 (m + 7) ((25) * (e1) + c5) (nI (1 + V4 ((25) * (cmN T (nI (c11)) (N) (e1)) + c11))))) (g' := g) rfl rfl rfl rfl ?_
                                    exact ih73 (vu V4 (25 * e1 + c5) (1 + V4 (25 * CM T N e1 (bsN c5 i6_) + bsN c5 i6_))) (i6_ + 1) (nI (1)) ((u2 hp73 (m + 7) ((25) * (e1) + c5) (nI (1 + V4 ((25) * (cmN T (nI (c11)) (N) (e1)) + c11))))) (by omega) (by rw [hbc]; exact rV_u hc73_1) (f7_u hc73_2) (cI_u hc73_3 (by omega) (by omega) (by omega) hltv) (dI_u hc73_4 (by omega) hltv _) (fun z => absurd z (by decide)) (by omega)
                                · skip
                                  subst q10
                                  rw [bs_all c5 (by omega) i6_ (by omega)] at ey9
                                  have hbc := bs_m ey9
                                  refine X_ldc C (D (94, .ldc 162, 2) (mg 54 rfl)) vX8_162 ?_
                                  refine X_ti (y := nI (1000000)) (by decide) ?_
                                  refine X_goto (tgt := 120) C (D (96, .goto 24, 3) (mg 55 rfl)) (by decide) ?_
                                  refine X_istore (ls' := [some (.ref (wA w (m))), some (.int (nI (N))), some (.int (nI (p2 (N) - 1))), some (.int (nI (e1))), some (.int (b6)), some (.int (nI (c5))), some (.int (nI (i6_))), some (.int ((-1 : Int32))), some (.int (nI (1000000)))]) C (D (120, .istore 8, 2) (mg 70 rfl)) (Nat.le_of_ble_eq_true rfl) rfl ?_
                                  refine X_iload C (D (122, .iload 8, 2) (mg 71 rfl)) rfl ?_
                                  refine X_aload_n C 0 (D (124, .aload_n 0, 1) (mg 72 rfl)) rfl rfl ?_
                                  refine X_get (v := .ref (wA w (m + 7))) C (m) 8 (by omega) hsm rfl rfl (by decide) inX8 fX8_33 rfl (D (125, .getfield 33, 3) (mg 73 rfl)) rfl ?_
                                  refine X_bipush (v := nI (25)) C (D (128, .bipush 25, 2) (mg 74 rfl)) (by decide) ?_
                                  refine X_iload_n C 3 (D (130, .iload_n 3, 1) (mg 75 rfl)) rfl rfl ?_
                                  refine X_imul C (D (131, .imul, 1) (mg 76 rfl)) ?_
                                  refine X_ti (y := nI ((25) * (e1))) (pk_mul (25) (e1)) ?_
                                  refine X_iload C (D (132, .iload 5, 2) (mg 77 rfl)) rfl ?_
                                  refine X_iadd C (D (134, .iadd, 1) (mg 78 rfl)) ?_
                                  refine X_ti (y := nI ((25) * (e1) + c5)) (nI_add ((25) * (e1)) (c5)) ?_
                                  refine X_iald (v := hp73 (m + 7) ((25) * (e1) + c5)) C (m + 7) (by omega) hs7 (vp_in_nI (by omega) (by omega)) (D (135, .iaload, 1) (mg 79 rfl)) (by rw [nI_clamp (by omega)]) ?_
                                  refine X_ti (y := nI (V4 ((25) * (e1) + c5))) (hc73_1 _ (by omega)) ?_
                                  have hv0 := hc73_3.1 ((25) * (e1) + c5)
                                  refine X_icmp_ge (tgt := 156) C (D (136, .if_icmp .ge 20, 3) (mg 80 rfl)) (by decide) (fun q16 => ?_) (fun q16 => ?_)
                                  · skip
                                    have q16 : (1000000) ≥ (V4 ((25) * (e1) + c5)) := by have z := (nI_leI (a := (V4 ((25) * (e1) + c5))) (b := (1000000)) (by omega) (by omega)).mp q16; omega
                                    have hsat9 : sat V4 T N e1 c5 i6_ := fun z => absurd z hbc
                                    refine X_iinc (v := nI (i6_ + 1)) (ls' := [some (.ref (wA w (m))), some (.int (nI (N))), some (.int (nI (p2 (N) - 1))), some (.int (nI (e1))), some (.int (b6)), some (.int (nI (c5))), some (.int (nI (i6_ + 1))), some (.int ((-1 : Int32))), some (.int (nI (1000000)))]) C (D (156, .iinc 6 1, 3) (mg 92 rfl)) rfl (nI_add (i6_) 1) rfl ?_
                                    refine X_goto (tgt := 73) C (D (159, .goto (-86), 3) (mg 93 rfl)) (by decide) ?_
                                    refine X_los (ls' := [some (.ref (wA w (m))), some (.int (nI (N))), some (.int (nI (p2 (N) - 1))), some (.int (nI (e1))), some (.int (b6)), some (.int (nI (c5))), some (.int (nI (i6_ + 1))), none, none]) (by simp [lsub]) ?_
                                    refine X_eq (ls' := [some (.ref (wA w (m))), some (.int (nI (N))), some (.int (nI (p2 (N) - 1))), some (.int (nI (e1))), some (.int (b6)), some (.int (nI (c5))), some (.int (nI (i6_ + 1))), none, none]) (st' := []) (h' := hp73) (g' := g) rfl rfl rfl rfl ?_
                                    exact ih73 (V4) (i6_ + 1) (b6) (hp73) (by omega) hc73_1 hc73_2 hc73_3 hc73_4 (fun z => sat_s (P := sat V4 T N e1) (hc73_5 z) hsat9) (by omega)
                                  · skip
                                    have q16 : (1000000) < (V4 ((25) * (e1) + c5)) := by have z : ¬ ((V4 ((25) * (e1) + c5)) ≤ (1000000)) := fun u => q16 ((nI_leI (a := (V4 ((25) * (e1) + c5))) (b := (1000000)) (by omega) (by omega)).mpr u); omega
                                    exact absurd q16 (by omega)
                          refine X_eq (ls' := [some (.ref (wA w (m))), some (.int (nI (N))), some (.int (nI (p2 (N) - 1))), some (.int (nI (e1))), some (.int (b5)), some (.int (nI (c5))), some (.int (nI (0))), none, none]) (st' := []) (h' := hp63) (g' := g) rfl rfl rfl rfl ?_
                          exact lp73 _ (V3) (0) (b5) (hp63) (by omega) hc63_1 hc63_2 hc63_3 hc63_4 (fun z c' i' z1 z2 => hc63_5 z c' i' (by omega) z2) (Nat.le_refl _)
                    refine X_eq (ls' := [some (.ref (wA w (m))), some (.int (nI (N))), some (.int (nI (p2 (N) - 1))), some (.int (nI (e1))), some (.int (nI (0))), some (.int (nI (0))), none, none, none]) (st' := []) (h' := hp52) (g' := g) rfl rfl rfl rfl ?_
                    exact lp63 _ (V2) (0) (nI (0)) (hp52) (by omega) hc52_2 hc52_3 hc52_4 (dI_0 V2 e1) (fun _ c' i' z => absurd z (by omega)) (Nat.le_refl _)
              refine X_eq (ls' := [some (.ref (wA w (m))), some (.int (nI (N))), some (.int (nI (p2 (N) - 1))), some (.int (nI (e1))), some (.int (nI (1))), none, none, none, none]) (st' := []) (h' := hp45) (g' := g) rfl rfl rfl rfl ?_
              exact lp52 _ (1) (V) (nI (1)) (hp45) (by omega) (fun z => absurd z (by omega)) hc45_2 hc45_3 (cI_0 hc45_4) (fun z => absurd z (by decide)) (Nat.le_refl _)
        refine X_eq (ls' := [some (.ref (wA w (m))), some (.int (nI (N))), some (.int (nI (p2 (N) - 1))), some (.int ((if p2 (N) - 1 = 0 then (-1 : Int32) else nI (p2 (N) - 1 - 1)))), none, none, none, none, none]) (st' := []) (h' := hp8) (g' := g) rfl rfl rfl rfl ?_
        exact lp45 _ (p2 (N) - 1) (v0 (p2 (N) - 1)) ((if p2 (N) - 1 = 0 then (-1 : Int32) else nI (p2 (N) - 1 - 1))) (hp8) (by omega) zs0 (fun i z => hc8_1 i (by omega)) hc8_2 (bI_0 T N) (Nat.le_refl _)
      · skip
        have q1 : (k3) < (800) := by have z : ¬ ((800) ≤ (k3)) := fun u => q1 ((nI_leI (a := (800)) (b := (k3)) (by omega) (by omega)).mpr u); omega
        refine X_aload_n C 0 (D (15, .aload_n 0, 1) (mg 11 rfl)) rfl rfl ?_
        refine X_get (v := .ref (wA w (m + 7))) C (m) 8 (by omega) hsm rfl rfl (by decide) inX8 fX8_33 rfl (D (16, .getfield 33, 3) (mg 12 rfl)) rfl ?_
        refine X_iload_n C 3 (D (19, .iload_n 3, 1) (mg 13 rfl)) rfl rfl ?_
        refine X_iload_n C 3 (D (20, .iload_n 3, 1) (mg 14 rfl)) rfl rfl ?_
        refine X_bipush (v := nI (25)) C (D (21, .bipush 25, 2) (mg 15 rfl)) (by decide) ?_
        refine X_idiv C (D (23, .idiv, 1) (mg 16 rfl)) (by decide) ?_
        refine X_ti (y := nI ((k3) / (25))) (pk_div (by omega) (by omega) (by omega)) ?_
        refine X_iload_n C 2 (D (24, .iload_n 2, 1) (mg 17 rfl)) rfl rfl ?_
        refine X_icmp_ne (tgt := 32) C (D (25, .if_icmp .ne 7, 3) (mg 18 rfl)) (by decide) (fun q17 => ?_) (fun q17 => ?_)
        · skip
          have q17 : ((k3) / (25)) ≠ (p2 (N) - 1) := by have z : ¬ (((k3) / (25)) = (p2 (N) - 1)) := fun u => q17 ((nI_eq (a := ((k3) / (25))) (b := (p2 (N) - 1)) (by omega) (by omega)).mpr u); omega
          refine X_ldc C (D (32, .ldc 162, 2) (mg 21 rfl)) vX8_162 ?_
          refine X_ti (y := nI (1000000)) (by decide) ?_
          refine X_iast (j := k3) C (m + 7) (by omega) hs7 (vp_in_nI (by omega) (by omega)) (D (34, .iastore, 1) (mg 22 rfl)) (nI_clamp (by omega)) ?_
          refine X_iinc (v := nI (k3 + 1)) (ls' := [some (.ref (wA w (m))), some (.int (nI (N))), some (.int (nI (p2 (N) - 1))), some (.int (nI (k3 + 1))), none, none, none, none, none]) C (D (35, .iinc 3 1, 3) (mg 23 rfl)) rfl (nI_add (k3) 1) rfl ?_
          refine X_goto (tgt := 8) C (D (38, .goto (-30), 3) (mg 24 rfl)) (by decide) ?_
          refine X_eq (ls' := [some (.ref (wA w (m))), some (.int (nI (N))), some (.int (nI (p2 (N) - 1))), some (.int (nI (k3 + 1))), none, none, none, none, none]) (st' := []) (h' := (u2 hp8 (m + 7) (k3) (nI (1000000)))) (g' := g) rfl rfl rfl rfl ?_
          exact ih8 (k3 + 1) ((u2 hp8 (m + 7) (k3) (nI (1000000)))) (by omega) (rV0_s hc8_1 (if_neg (by omega)).symm) (f7_u hc8_2) (by omega)
        · skip
          have q17 : ((k3) / (25)) = (p2 (N) - 1) := by have z := (nI_eq (a := ((k3) / (25))) (b := (p2 (N) - 1)) (by omega) (by omega)).mp q17; omega
          refine X_iconst (v := nI (0)) C (D (28, .iconst 0, 1) (mg 19 rfl)) (by decide) ?_
          refine X_goto (tgt := 34) C (D (29, .goto 5, 3) (mg 20 rfl)) (by decide) ?_
          refine X_iast (j := k3) C (m + 7) (by omega) hs7 (vp_in_nI (by omega) (by omega)) (D (34, .iastore, 1) (mg 22 rfl)) (nI_clamp (by omega)) ?_
          refine X_iinc (v := nI (k3 + 1)) (ls' := [some (.ref (wA w (m))), some (.int (nI (N))), some (.int (nI (p2 (N) - 1))), some (.int (nI (k3 + 1))), none, none, none, none, none]) C (D (35, .iinc 3 1, 3) (mg 23 rfl)) rfl (nI_add (k3) 1) rfl ?_
          refine X_goto (tgt := 8) C (D (38, .goto (-30), 3) (mg 24 rfl)) (by decide) ?_
          refine X_eq (ls' := [some (.ref (wA w (m))), some (.int (nI (N))), some (.int (nI (p2 (N) - 1))), some (.int (nI (k3 + 1))), none, none, none, none, none]) (st' := []) (h' := (u2 hp8 (m + 7) (k3) (nI (0)))) (g' := g) rfl rfl rfl rfl ?_
          exact ih8 (k3 + 1) ((u2 hp8 (m + 7) (k3) (nI (0)))) (by omega) (rV0_s hc8_1 (if_pos (by omega)).symm) (f7_u hc8_2) (by omega)
  refine X_eq (ls' := [some (.ref (wA w (m))), some (.int (nI (N))), some (.int (nI (p2 (N) - 1))), some (.int (nI (0))), none, none, none, none, none]) (st' := []) (h' := h) (g' := g) rfl rfl rfl rfl ?_
  exact lp8 _ (0) (h) (by omega) (fun i z => absurd z (by omega)) (fun _ _ _ => rfl) (Nat.le_refl _)
