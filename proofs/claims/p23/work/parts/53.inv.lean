/-! PHASE 2, BOTH SIDES: the larger invariant -/
/-- the class's state t and the reference's row q from o on: KIND, STONY, SEEN and MARKS are the same -/
def sE (h : xI) (t q o : Nat) : Prop := (∃ k, k < 6 ∧ h (t + 1) 2 = nI k) ∧ h (t + 1) 2 = h q (o + 30) ∧ (∀ c, c < 25 → h (t + 2) c = h q (o + (31 + c))) ∧ h t 4 = h q (o + 0) ∧ h t 5 = h q (o + 1) ∧ (∀ n, n ≤ 5 → h t 4 = nI n → ∀ i, i < 4 * n → h (t + 6) i = h q (o + (56 + i))) ∧ ∀ n, n ≤ 6 → h t 5 = nI n → ∀ i, i < 3 * n → h (t + 7) i = h q (o + (76 + i))
theorem sE_c {h h' : xI} {t t' q q' o o' : Nat} (f2 : h' (t' + 1) 2 = h (t + 1) 2) (fs : ∀ c, c < 25 → h' (t' + 2) c = h (t + 2) c) (f4 : h' t' 4 = h t 4) (f5 : h' t' 5 = h t 5) (f6 : ∀ i, i < 20 → h' (t' + 6) i = h (t + 6) i) (f7 : ∀ i, i < 18 → h' (t' + 7) i = h (t + 7) i) (g : ∀ i, i = 0 ∨ i = 1 ∨ (30 ≤ i ∧ i < 94) → h' q' (o' + i) = h q (o + i)) (H : sE h t q o) : sE h' t' q' o' := by
  obtain ⟨⟨k, hk, e0⟩, e1, e2, e3, e4, e5, e6⟩ := H
  refine ⟨⟨k, hk, by rw [f2]; exact e0⟩, by rw [f2, g _ (by omega)]; exact e1, fun c hc => by rw [fs c hc, g _ (by omega)]; exact e2 c hc, by rw [f4, g _ (by omega)]; exact e3, by rw [f5, g _ (by omega)]; exact e4, fun n hn w i hi => ?_, fun n hn w i hi => ?_⟩
  · rw [f6 i (by omega), g _ (by omega)]; exact e5 n hn (f4.symm.trans w) i hi
  · rw [f7 i (by omega), g _ (by omega)]; exact e6 n hn (f5.symm.trans w) i hi
theorem sE_f {h h' : xI} {t q o : Nat} (f : ∀ p i, (p = t + 1 ∧ i = 2) ∨ p = t + 2 ∨ (p = t ∧ (i = 4 ∨ i = 5)) ∨ p = t + 6 ∨ p = t + 7 → h' p i = h p i) (g : ∀ i, i = 0 ∨ i = 1 ∨ (30 ≤ i ∧ i < 94) → h' q (o + i) = h q (o + i)) (H : sE h t q o) : sE h' t q o := sE_c (f _ _ (by omega)) (fun c _ => f _ _ (by omega)) (f _ _ (by omega)) (f _ _ (by omega)) (fun i _ => f _ _ (by omega)) (fun i _ => f _ _ (by omega)) g H
def K2 (x m : Nat) (h : xI) : Prop := (∀ i, i < 150 → h (x + 34) i = h (m + 9) i) ∧ sE h (x + 1) (m + 1) 0 ∧ sE h (x + 10) (m + 2) 0 ∧ sE h (x + 18) (m + 2) 310
def J2 (x m : Nat) (h : xI) : Prop := J x m h ∧ K2 x m h
/-- quiet calls -/
def cQ (x : Nat) (h h' : xI) : Prop := ∀ q i, ¬ SW x q i → h' q i = h q i
def mQ (m : Nat) (h h' : xI) : Prop := ∀ q i, ¬ SM m q i → h' q i = h q i
theorem K_qq {x m : Nat} {h h1 h2 : xI} (hxm : x + 38 < m) (H : K2 x m h) (a : cQ x h h1) (b : mQ m h1 h2) : K2 x m h2 := by
  obtain ⟨k1, k2, k3, k4⟩ := H
  have f : ∀ q i, ¬ SW x q i → ¬ SM m q i → h2 q i = h q i := fun q i z1 z2 => (b q i z2).trans (a q i z1)
  refine ⟨fun i hi => ?_, sE_f (fun p i z => f _ _ (by unfold SW; omega) (by unfold SM; omega)) (fun i hi => f _ _ (by unfold SW; omega) (by unfold SM; omega)) k2, sE_f (fun p i z => f _ _ (by unfold SW; omega) (by unfold SM; omega)) (fun i hi => f _ _ (by unfold SW; omega) (by unfold SM; omega)) k3, sE_f (fun p i z => f _ _ (by unfold SW; omega) (by unfold SM; omega)) (fun i hi => f _ _ (by unfold SW; omega) (by unfold SM; omega)) k4⟩
  rw [f _ _ (by unfold SW; omega) (by unfold SM; omega), f _ _ (by unfold SW; omega) (by unfold SM; omega)]; exact k1 i hi
theorem cQ_rc {x s : Nat} {h : xI} (hs : 9 ≤ s) : cQ x h (rcH h x s) := fun q i z => rcH_ne _ _ _ (fun e => z (Or.inl ⟨e.1, by omega⟩))
theorem mQ_rf {m s : Nat} {h : xI} : mQ m h (rfH h m s) := fun q i z => rfH_ne _ _ _ (fun e => z (by unfold SM; omega))
theorem mQ_r {m : Nat} {h : xI} : mQ m h h := fun _ _ _ => rfl
theorem K_rr {x m s s' : Nat} {h : xI} (hxm : x + 38 < m) (H : K2 x m h) (hs : 9 ≤ s) : K2 x m (rfH (rcH h x s) m s') := K_qq hxm H (cQ_rc hs) mQ_rf
/-- calls that change what is NOW alone -/
theorem K_now {x m : Nat} {h h' : xI} (H : K2 x m h) (f : ∀ q i, (x + 10 ≤ q ∧ q ≤ x + 25) ∨ q = x + 34 ∨ q = m + 2 ∨ q = m + 9 → h' q i = h q i) (s : sE h' (x + 1) (m + 1) 0) : K2 x m h' := by
  obtain ⟨k1, -, k3, k4⟩ := H
  refine ⟨fun i hi => by rw [f _ _ (by omega), f _ _ (by omega)]; exact k1 i hi, s, sE_f (fun p i z => f _ _ (by omega)) (fun i hi => f _ _ (by omega)) k3, sE_f (fun p i z => f _ _ (by omega)) (fun i hi => f _ _ (by omega)) k4⟩
theorem J2_kk {x m : Nat} {h h1 h2 : xI} (hxm : x + 38 < m) (hJ : J2 x m h) (a : cKp x h h1) (b : mKp m h1 h2) (c : cQ x h h1) (d : mQ m h1 h2) : J2 x m h2 := ⟨J_kk hxm hJ.1 a b, K_qq hxm hJ.2 c d⟩
/-- sizes none: whatever the rows hold -/
theorem sE_0 {h : xI} {t q o k : Nat} (hk : k < 6) (e0 : h (t + 1) 2 = nI k) (e1 : h q (o + 30) = nI k) (e2 : ∀ c, c < 25 → h (t + 2) c = h q (o + (31 + c))) (e3 : h t 4 = nI 0) (e3' : h q (o + 0) = nI 0) (e4 : h t 5 = nI 0) (e4' : h q (o + 1) = nI 0) : sE h t q o := by
  refine ⟨⟨k, hk, e0⟩, e0.trans e1.symm, e2, e3.trans e3'.symm, e4.trans e4'.symm, fun n hn w i hi => ?_, fun n hn w i hi => ?_⟩
  · have : n = 0 := ((nI_eq (by omega) (by omega)).mp (e3.symm.trans w)).symm
    omega
  · have : n = 0 := ((nI_eq (by omega) (by omega)).mp (e4.symm.trans w)).symm
    omega
theorem JX_harrow {x m : Nat} {h h1 h2 : xI} {g g1 g2 : xJ} {a : Int32} {v1 v2 : Option Value} (hxm : x + 38 < m) (hJ : J2 x m h) (H1 : pif (0 ≤ a.toInt ∧ a.toInt < 6) (px (some (.int (h (x + 2) 2))) (u2 (u2 h (x + 2) 2 a) (x + 5) 1 (nI 0)) g) (px (some (.int (-2 : Int32))) (rcH h x 9) g) v1 h1 g1) (H2 : pif (0 ≤ a.toInt ∧ a.toInt < 6) (px (some (.int (h1 (m + 1) 30))) (u2 (u2 h1 (m + 1) 30 a) (m + 1) 2 (nI 0)) g1) (px (some (.int (-2 : Int32))) (rfH h1 m 0) g1) v2 h2 g2) : J2 x m h2 ∧ v1 = v2 := by
  have hc := (cKp_harrow hJ.1.1 H1).2
  have hm := (mKp_harrow (J_1 hxm hJ.1 hc) H2).2
  have hj := J_kk hxm hJ.1 hc hm
  by_cases q : 0 ≤ a.toInt ∧ a.toInt < 6
  · obtain ⟨rfl, rfl, -⟩ := H1.1 q
    obtain ⟨rfl, rfl, -⟩ := H2.1 q
    obtain ⟨k, hk, rfl⟩ := nI_i (x := a) (n := 6) q.1 (by omega)
    have f : ∀ q i, ¬ (q = x + 2 ∧ i = 2) → q ≠ x + 5 → ¬ (q = m + 1 ∧ (i = 30 ∨ i = 2)) → u2 (u2 (u2 (u2 h (x + 2) 2 (nI k)) (x + 5) 1 (nI 0)) (m + 1) 30 (nI k)) (m + 1) 2 (nI 0) q i = h q i := fun q i z1 z2 z3 => by rw [u2_ne _ _ _ _ (by omega), u2_ne _ _ _ _ (by omega), u2_ne _ _ _ _ (by omega), u2_ne _ _ _ _ (by omega)]
    obtain ⟨k0, e1, e2, e3, e4, e5, e6⟩ := hJ.2.2.1
    refine ⟨⟨hj, K_now hJ.2 (fun q i z => f _ _ (by omega) (by omega) (by omega)) ⟨⟨k, hk, ?_⟩, ?_, fun c hc => ?_, ?_, ?_, fun n hn w i hi => ?_, fun n hn w i hi => ?_⟩⟩, ?_⟩
    · rw [u2_ne _ _ _ _ (by omega), u2_ne _ _ _ _ (by omega), u2_ne _ _ _ _ (by omega), u2_s]
    · rw [u2_ne _ _ _ _ (by omega), u2_ne _ _ _ _ (by omega), u2_ne _ _ _ _ (by omega), u2_s, u2_ne _ _ _ _ (by omega), u2_s]
    · rw [f _ _ (by omega) (by omega) (by omega), f _ _ (by omega) (by omega) (by omega)]; exact e2 c hc
    · rw [f _ _ (by omega) (by omega) (by omega), f _ _ (by omega) (by omega) (by omega)]; exact e3
    · rw [f _ _ (by omega) (by omega) (by omega), f _ _ (by omega) (by omega) (by omega)]; exact e4
    · rw [f _ _ (by omega) (by omega) (by omega), f _ _ (by omega) (by omega) (by omega)]; exact e5 n hn ((f _ _ (by omega) (by omega) (by omega)).symm.trans w) i hi
    · rw [f _ _ (by omega) (by omega) (by omega), f _ _ (by omega) (by omega) (by omega)]; exact e6 n hn ((f _ _ (by omega) (by omega) (by omega)).symm.trans w) i hi
    · rw [u2_ne _ _ _ _ (by omega), u2_ne _ _ _ _ (by omega)]
      exact congrArg (fun z => some (Value.int z)) (e1.trans (by rw [Nat.zero_add]))
  · obtain ⟨rfl, rfl, -⟩ := H1.2 q
    obtain ⟨rfl, rfl, -⟩ := H2.2 q
    exact ⟨⟨hj, K_rr hxm hJ.2 (by omega)⟩, rfl⟩
theorem JX_stony {x m : Nat} {h h1 h2 : xI} {g g1 g2 : xJ} {a b : Int32} {v1 v2 : Option Value} (hxm : x + 38 < m) (hJ : J2 x m h) (H1 : pif ((0 ≤ a.toInt ∧ a.toInt < 25) ∧ (0 ≤ b.toInt ∧ b.toInt < 5)) (px (some (.int (h (x + 3) a.toInt.toNat))) (u2 (u2 h (x + 3) a.toInt.toNat b) (x + 5) 1 (nI 0)) g) (px (some (.int (-2 : Int32))) (rcH h x 9) g) v1 h1 g1) (H2 : pif ((0 ≤ a.toInt ∧ a.toInt < 25) ∧ (0 ≤ b.toInt ∧ b.toInt < 5)) (px (some (.int (h1 (m + 1) (31 + a.toInt.toNat)))) (u2 (u2 h1 (m + 1) (31 + a.toInt.toNat) b) (m + 1) 2 (nI 0)) g1) (px (some (.int (-2 : Int32))) (rfH h1 m 0) g1) v2 h2 g2) : J2 x m h2 ∧ v1 = v2 := by
  have hc := (cKp_stony hJ.1.1 H1).2
  have hm := (mKp_stony (J_1 hxm hJ.1 hc) H2).2
  have hj := J_kk hxm hJ.1 hc hm
  by_cases q : (0 ≤ a.toInt ∧ a.toInt < 25) ∧ (0 ≤ b.toInt ∧ b.toInt < 5)
  · obtain ⟨rfl, rfl, -⟩ := H1.1 q
    obtain ⟨rfl, rfl, -⟩ := H2.1 q
    obtain ⟨j, hj0⟩ : ∃ j, j = a.toInt.toNat := ⟨_, rfl⟩
    have hj25 : j < 25 := by omega
    rw [← hj0] at hj ⊢
    have f : ∀ q i, ¬ (q = x + 3 ∧ i = j) → q ≠ x + 5 → ¬ (q = m + 1 ∧ (i = 31 + j ∨ i = 2)) → u2 (u2 (u2 (u2 h (x + 3) j b) (x + 5) 1 (nI 0)) (m + 1) (31 + j) b) (m + 1) 2 (nI 0) q i = h q i := fun q i z1 z2 z3 => by rw [u2_ne _ _ _ _ (by omega), u2_ne _ _ _ _ (by omega), u2_ne _ _ _ _ (by omega), u2_ne _ _ _ _ (by omega)]
    obtain ⟨⟨k, hk, e0⟩, e1, e2, e3, e4, e5, e6⟩ := hJ.2.2.1
    refine ⟨⟨hj, K_now hJ.2 (fun q i z => f _ _ (by omega) (by omega) (by omega)) ⟨⟨k, hk, ?_⟩, ?_, fun c hc => ?_, ?_, ?_, fun n hn w i hi => ?_, fun n hn w i hi => ?_⟩⟩, ?_⟩
    · rw [f _ _ (by omega) (by omega) (by omega)]; exact e0
    · rw [f _ _ (by omega) (by omega) (by omega), f _ _ (by omega) (by omega) (by omega)]; exact e1
    · by_cases w : c = j
      · subst w
        rw [u2_ne _ _ _ _ (by omega), u2_ne _ _ _ _ (by omega), u2_ne _ _ _ _ (by omega), u2_s, u2_ne _ _ _ _ (by omega), Nat.zero_add, u2_s]
      · rw [f _ _ (by omega) (by omega) (by omega), f _ _ (by omega) (by omega) (by omega)]; exact e2 c hc
    · rw [f _ _ (by omega) (by omega) (by omega), f _ _ (by omega) (by omega) (by omega)]; exact e3
    · rw [f _ _ (by omega) (by omega) (by omega), f _ _ (by omega) (by omega) (by omega)]; exact e4
    · rw [f _ _ (by omega) (by omega) (by omega), f _ _ (by omega) (by omega) (by omega)]; exact e5 n hn ((f _ _ (by omega) (by omega) (by omega)).symm.trans w) i hi
    · rw [f _ _ (by omega) (by omega) (by omega), f _ _ (by omega) (by omega) (by omega)]; exact e6 n hn ((f _ _ (by omega) (by omega) (by omega)).symm.trans w) i hi
    · rw [u2_ne _ _ _ _ (by omega), u2_ne _ _ _ _ (by omega)]
      exact congrArg (fun z => some (Value.int z)) ((e2 j hj25).trans (by rw [Nat.zero_add]))
  · obtain ⟨rfl, rfl, -⟩ := H1.2 q
    obtain ⟨rfl, rfl, -⟩ := H2.2 q
    exact ⟨⟨hj, K_rr hxm hJ.2 (by omega)⟩, rfl⟩
theorem JX_nave {x m : Nat} {h h1 h2 : xI} {g g1 g2 : xJ} {a b y : Int32} {v1 v2 : Option Value} (hxm : x + 38 < m) (hJ : J2 x m h) (H1 : pif ((0 ≤ a.toInt ∧ a.toInt < 6) ∧ (0 ≤ b.toInt ∧ b.toInt < 25)) (pX (dnH (cbH h (x + 2) a b) (x + 1))) (px (some (.int (-2 : Int32))) (rcH h x 9) g) v1 h1 g1) (H2 : pif ((0 ≤ a.toInt ∧ a.toInt < 6) ∧ (0 ≤ b.toInt ∧ b.toInt < 25)) (px (some (.int y)) (bgH h1 (m + 1) a b) g1) (px (some (.int (-2 : Int32))) (rfH h1 m 0) g1) v2 h2 g2) : J2 x m h2 := by
  have hc := (cKp_nave hJ.1.1 H1).2
  have hm := (mKp_nave (J_1 hxm hJ.1 hc) H2).2
  have hj := J_kk hxm hJ.1 hc hm
  by_cases q : (0 ≤ a.toInt ∧ a.toInt < 6) ∧ (0 ≤ b.toInt ∧ b.toInt < 25)
  · obtain ⟨-, rfl⟩ := H1.1 q
    obtain ⟨rfl, rfl, -⟩ := H2.1 q
    obtain ⟨k, hk, rfl⟩ := nI_i (x := a) (n := 6) q.1.1 (by omega)
    obtain ⟨c0, hc0, rfl⟩ := nI_i (x := b) (n := 25) q.2.1 (by omega)
    have fb : ∀ q i, q ≠ m + 1 → bgH (dnH (cbH h (x + 2) (nI k) (nI c0)) (x + 1)) (m + 1) (nI k) (nI c0) q i = dnH (cbH h (x + 2) (nI k) (nI c0)) (x + 1) q i := fun q i z => bgH_ne _ _ _ _ (Or.inl z)
    have rc := rC_k (h' := dnH (cbH h (x + 2) (nI k) (nI c0)) (x + 1)) (fun q i z1 z2 => dnH_ne _ _ (by omega)) (rC_beg h (x + 2) k c0)
    have rm := rM_beg (dnH (cbH h (x + 2) (nI k) (nI c0)) (x + 1)) (m + 1) k c0
    refine ⟨hj, K_now hJ.2 (fun q i z => ?_) (sE_0 hk ?_ ?_ (fun c hc => ?_) ?_ ?_ ?_ ?_)⟩
    · rw [fb _ _ (by omega), dnH_ne _ _ (by omega), cbH_ne _ _ _ _ (by omega)]
    · rw [fb _ _ (by omega)]; exact rc.1
    · rw [Nat.zero_add]; exact rm.1
    · rw [fb _ _ (by omega), rc.2.2.1 c hc, Nat.zero_add, rm.2.2.1 c hc]
    · rw [fb _ _ (by omega)]; unfold dnH; rw [u2_ne _ _ _ _ (by omega), u2_s]
    · exact bgH_0 _ _ _ _ (by omega)
    · rw [fb _ _ (by omega)]; unfold dnH; rw [u2_s]
    · exact bgH_0 _ _ _ _ (by omega)
  · obtain ⟨rfl, rfl, -⟩ := H1.2 q
    obtain ⟨rfl, rfl, -⟩ := H2.2 q
    exact ⟨hj, K_rr hxm hJ.2 (by omega)⟩
theorem JX_read {x m : Nat} {r : rT} {h h1 h2 : xI} {g1 g2 : xJ} {v1 v2 : Option Value} (hxm : x + 38 < m) (hJ : J2 x m h) (H1 : pR (rA r) (xO r x h) v1 h1 g1) (H2 : pR (rA r) (xQ r m h1) v2 h2 g2) : J2 x m h2 ∧ v1 = v2 := by
  obtain ⟨rfl, a1, a2, a3, a4⟩ := H1
  obtain ⟨rfl, b1, b2, b3, b4⟩ := H2
  have hc := cKp_read a1 a2
  have hm := mKp_read b1 b2
  refine ⟨⟨J_kk hxm hJ.1 hc hm, K_now hJ.2 (fun q i z => ?_) ?_⟩, rfl⟩
  · rw [b1 _ _ (by omega) (by omega) (by omega) (by omega), a1 _ _ (by omega) (by omega) (by omega)]
  · by_cases q : r.1 = true
    · obtain ⟨c1, c2, c3, c4⟩ := a3 q
      obtain ⟨d1, -, d3, d4⟩ := b3 q
      have fb : ∀ q i, q < m → h2 q i = h1 q i := fun q i z => b1 _ _ (by omega) (by omega) (by omega) (by omega)
      refine sE_0 c2.1 ?_ ?_ (fun c hc => ?_) ?_ ?_ ?_ ?_
      · rw [fb _ _ (by omega)]; exact c1.1
      · rw [Nat.zero_add]; exact d1.1
      · rw [fb _ _ (by omega), c1.2.2.1 c hc, Nat.zero_add, d1.2.2.1 c hc]
      · rw [fb _ _ (by omega)]; exact c3
      · exact d3
      · rw [fb _ _ (by omega)]; exact c4
      · exact d4
    · refine sE_f (fun p i z => ?_) (fun i hi => ?_) hJ.2.2.1
      · rw [b1 _ _ (by omega) (by omega) (by omega) (by omega)]; exact a4 q _ _ (by omega) (by omega)
      · rw [b4 q]; exact hc.1 _ _ (by omega)
theorem JX_forget {x m : Nat} {h h1 h2 : xI} {g g1 g2 : xJ} {a : Int32} {v1 v2 : Option Value} (hxm : x + 38 < m) (hJ : J2 x m h) (H1 : pif (0 ≤ a.toInt ∧ a.toInt < 2) (pif (a = 0) (px (some (.int (h (x + 1) 4))) (u2 h (x + 1) 4 (nI 0)) g) (px (some (.int (h (x + 1) 5))) (u2 h (x + 1) 5 (nI 0)) g)) (px (some (.int (-2 : Int32))) (rcH h x 9) g) v1 h1 g1) (H2 : pif (0 ≤ a.toInt ∧ a.toInt ≤ 1) (px (some (.int (h1 (m + 1) (0 + a.toInt.toNat)))) (u2 h1 (m + 1) (0 + a.toInt.toNat) (nI 0)) g1) (px (some (.int (-2 : Int32))) (rfH h1 m 0) g1) v2 h2 g2) : J2 x m h2 ∧ v1 = v2 := by
  have hc := (cKp_forget hJ.1.1 H1).2
  have hm := (mKp_forget (J_1 hxm hJ.1 hc) H2).2
  have hj := J_kk hxm hJ.1 hc hm
  by_cases q : 0 ≤ a.toInt ∧ a.toInt < 2
  · obtain ⟨k0, e1, e2, e3, e4, e5, e6⟩ := hJ.2.2.1
    by_cases q2 : a = 0
    · obtain ⟨rfl, rfl, -⟩ := (H1.1 q).1 q2
      obtain ⟨rfl, rfl, -⟩ := H2.1 (by omega)
      subst q2
      have f : ∀ q i, ¬ (q = x + 1 ∧ i = 4) → ¬ (q = m + 1 ∧ i = 0) → u2 (u2 h (x + 1) 4 (nI 0)) (m + 1) 0 (nI 0) q i = h q i := fun q i z1 z2 => by rw [u2_ne _ _ _ _ (by omega), u2_ne _ _ _ _ (by omega)]
      obtain ⟨k, hk, e0⟩ := k0
      refine ⟨⟨hj, K_now hJ.2 (fun q i z => f _ _ (by omega) (by omega)) ⟨⟨k, hk, (f _ _ (by omega) (by omega)).trans e0⟩, ?_, fun c hc => ?_, ?_, ?_, fun n hn w i hi => ?_, fun n hn w i hi => ?_⟩⟩, ?_⟩
      · exact ((f _ _ (by omega) (by omega)).trans e1).trans (f _ _ (by omega) (by omega)).symm
      · exact ((f _ _ (by omega) (by omega)).trans (e2 c hc)).trans (f _ _ (by omega) (by omega)).symm
      · show u2 (u2 h (x + 1) 4 (nI 0)) (m + 1) 0 (nI 0) (x + 1) 4 = u2 (u2 h (x + 1) 4 (nI 0)) (m + 1) 0 (nI 0) (m + 1) 0
        rw [u2_s, u2_ne _ _ _ _ (by omega), u2_s]
      · exact ((f _ _ (by omega) (by omega)).trans e4).trans (f _ _ (by omega) (by omega)).symm
      · have w' : nI 0 = nI n := by
          have w2 : u2 (u2 h (x + 1) 4 (nI 0)) (m + 1) 0 (nI 0) (x + 1) 4 = nI n := w
          rw [u2_ne _ _ _ _ (by omega), u2_s] at w2; exact w2
        have : n = 0 := ((nI_eq (by omega) (by omega)).mp w').symm
        omega
      · exact ((f _ _ (by omega) (by omega)).trans (e6 n hn ((f _ _ (by omega) (by omega)).symm.trans w) i hi)).trans (f _ _ (by omega) (by omega)).symm
      · show some (Value.int (h (x + 1) 4)) = some (Value.int (u2 h (x + 1) 4 (nI 0) (m + 1) 0))
        rw [u2_ne _ _ _ _ (by omega)]
        exact congrArg (fun z => some (Value.int z)) e3
    · have a1 : a = 1 := Int32.toInt_inj.mp (by have : a.toInt ≠ 0 := fun w => q2 (Int32.toInt_inj.mp (w.trans (by decide))); rw [show (1 : Int32).toInt = 1 from by decide]; omega)
      obtain ⟨rfl, rfl, -⟩ := (H1.1 q).2 q2
      obtain ⟨rfl, rfl, -⟩ := H2.1 (by omega)
      subst a1
      have f : ∀ q i, ¬ (q = x + 1 ∧ i = 5) → ¬ (q = m + 1 ∧ i = 1) → u2 (u2 h (x + 1) 5 (nI 0)) (m + 1) 1 (nI 0) q i = h q i := fun q i z1 z2 => by rw [u2_ne _ _ _ _ (by omega), u2_ne _ _ _ _ (by omega)]
      obtain ⟨k, hk, e0⟩ := k0
      refine ⟨⟨hj, K_now hJ.2 (fun q i z => f _ _ (by omega) (by omega)) ⟨⟨k, hk, (f _ _ (by omega) (by omega)).trans e0⟩, ?_, fun c hc => ?_, ?_, ?_, fun n hn w i hi => ?_, fun n hn w i hi => ?_⟩⟩, ?_⟩
      · exact ((f _ _ (by omega) (by omega)).trans e1).trans (f _ _ (by omega) (by omega)).symm
      · exact ((f _ _ (by omega) (by omega)).trans (e2 c hc)).trans (f _ _ (by omega) (by omega)).symm
      · exact ((f _ _ (by omega) (by omega)).trans e3).trans (f _ _ (by omega) (by omega)).symm
      · show u2 (u2 h (x + 1) 5 (nI 0)) (m + 1) 1 (nI 0) (x + 1) 5 = u2 (u2 h (x + 1) 5 (nI 0)) (m + 1) 1 (nI 0) (m + 1) 1
        rw [u2_s, u2_ne _ _ _ _ (by omega), u2_s]
      · exact ((f _ _ (by omega) (by omega)).trans (e5 n hn ((f _ _ (by omega) (by omega)).symm.trans w) i hi)).trans (f _ _ (by omega) (by omega)).symm
      · have w' : nI 0 = nI n := by
          have w2 : u2 (u2 h (x + 1) 5 (nI 0)) (m + 1) 1 (nI 0) (x + 1) 5 = nI n := w
          rw [u2_ne _ _ _ _ (by omega), u2_s] at w2; exact w2
        have : n = 0 := ((nI_eq (by omega) (by omega)).mp w').symm
        omega
      · show some (Value.int (h (x + 1) 5)) = some (Value.int (u2 h (x + 1) 5 (nI 0) (m + 1) 1))
        rw [u2_ne _ _ _ _ (by omega)]
        exact congrArg (fun z => some (Value.int z)) e4
  · obtain ⟨rfl, rfl, -⟩ := H1.2 q
    obtain ⟨rfl, rfl, -⟩ := H2.2 (by omega)
    exact ⟨⟨hj, K_rr hxm hJ.2 (by omega)⟩, rfl⟩
