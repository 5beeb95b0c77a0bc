/-! BOTH SIDES, 3: the law's invariant -/
def J (x m : Nat) (h : xI) : Prop := cOk h x ∧ mOk h m ∧ h (x + 33) 2 = h m 11 ∧ ∀ i, h (x + 26) i = h (m + 3) i
theorem cOk_f {x : Nat} {h h' : xI} (f : ∀ q i, x ≤ q → q ≤ x + 38 → h' q i = h q i) (H : cOk h x) : cOk h' x := by
  obtain ⟨b1, b2, b3, ⟨n, hn, e⟩, ⟨c, hc, e2⟩⟩ := H
  exact ⟨tOk_k (fun q i z1 z2 => f q i (by omega) (by omega)) b1, tOk_k (fun q i z1 z2 => f q i (by omega) (by omega)) b2, tOk_k (fun q i z1 z2 => f q i (by omega) (by omega)) b3, ⟨n, hn, by rw [f _ _ (by omega) (by omega)]; exact e⟩, ⟨c, hc, by rw [f _ _ (by omega) (by omega)]; exact e2⟩⟩
theorem mOk_f {m : Nat} {h h' : xI} (f : ∀ q i, m ≤ q → q ≤ m + 11 → h' q i = h q i) (H : mOk h m) : mOk h' m := by
  obtain ⟨b1, b2, b3, ⟨n, hn, e⟩⟩ := H
  exact ⟨rU_c (fun i hi => f _ _ (by omega) (by omega)) b1, rS_c (fun i hi => f _ _ (by omega) (by omega)) b2, fun i hi => ⟨rU_c (fun j hj => f _ _ (by omega) (by omega)) (b3 i hi).1, rS_c (fun j hj => f _ _ (by omega) (by omega)) (b3 i hi).2⟩, ⟨n, hn, by rw [f _ _ (by omega) (by omega)]; exact e⟩⟩
theorem J_1 {x m : Nat} {h h1 : xI} (hxm : x + 38 < m) (hJ : J x m h) (a : cKp x h h1) : mOk h1 m := mOk_f (fun q i z1 z2 => a.1 q i (by omega)) hJ.2.1
theorem J_kk {x m : Nat} {h h1 h2 : xI} (hxm : x + 38 < m) (hJ : J x m h) (a : cKp x h h1) (b : mKp m h1 h2) : J x m h2 := by
  refine ⟨cOk_f (fun q i z1 z2 => b.1 q i (by omega)) a.2.1, b.2.1, ?_, fun i => ?_⟩
  · rw [b.1 _ _ (by omega), a.2.2.1, b.2.2.1, a.1 _ _ (by omega)]; exact hJ.2.2.1
  · rw [b.1 _ _ (by omega), a.2.2.2, b.2.2.2, a.1 _ _ (by omega)]; exact hJ.2.2.2 i
theorem isI_p {P : Prop} {A B : Option Value → xI → xJ → Prop} {v : Option Value} {h : xI} {g : xJ} (H : pif P A B v h g) (ha : A v h g → isI v) (hb : B v h g → isI v) : isI v := by
  by_cases q : P
  · exact ha (H.1 q)
  · exact hb (H.2 q)
theorem isI_x {a : Int32} {h1 : xI} {g1 : xJ} {v : Option Value} {h : xI} {g : xJ} (H : px (some (.int a)) h1 g1 v h g) : isI v := ⟨a, H.1.symm⟩
/-- the class has refused, and the reference too -/
theorem J_rr {x m s s' : Nat} {h : xI} (hxm : x + 38 < m) (hJ : J x m h) (hs : 9 ≤ s) : J x m (rfH (rcH h x s) m s') := J_kk hxm hJ (cKp_rc hJ.1 hs) (mKp_rf (J_1 hxm hJ (cKp_rc hJ.1 hs)))
def tyC (x nt : Nat) (a : Int32) (h : xI) (g : xJ) : Option Value → xI → xJ → Prop := pif (0 ≤ a.toInt ∧ a.toInt < 128) (pif (nt = 150) (px (some (.int (-4 : Int32))) (rcH h x 11) g) (px (some (.int (nI (nt + 1)))) (u2 (u2 h (x + 34) nt a) (x + 33) 2 (nI (nt + 1))) g)) (px (some (.int (-2 : Int32))) (rcH h x 9) g)
def tyM (m nt : Nat) (a : Int32) (h : xI) (g : xJ) : Option Value → xI → xJ → Prop := pif (0 ≤ a.toInt ∧ a.toInt ≤ 127) (pif (nt = 150) (px (some (.int (-4 : Int32))) (rfH h m 2) g) (px (some (.int (nI (nt + 1)))) (u2 (u2 h (m + 9) nt a) m 11 (nI (nt + 1))) g)) (px (some (.int (-2 : Int32))) (rfH h m 0) g)
theorem tyC_i {x nt : Nat} {a : Int32} {h h' : xI} {g g' : xJ} {v : Option Value} (H : tyC x nt a h g v h' g') : isI v := isI_p H (fun z => isI_p z isI_x isI_x) isI_x
theorem tyM_i {m nt : Nat} {a : Int32} {h h' : xI} {g g' : xJ} {v : Option Value} (H : tyM m nt a h g v h' g') : isI v := isI_p H (fun z => isI_p z isI_x isI_x) isI_x
theorem cKp_u {x nt k : Nat} {a : Int32} {h : xI} (hI : cOk h x) (hk : k ≤ 150) : cOk (u2 (u2 h (x + 34) nt a) (x + 33) 2 (nI k)) x := by
  obtain ⟨b1, b2, b3, -, ⟨c, hc, e2⟩⟩ := hI
  have f : ∀ q i, q ≠ x + 34 → q ≠ x + 33 → u2 (u2 h (x + 34) nt a) (x + 33) 2 (nI k) q i = h q i := fun q i z1 z2 => by rw [u2_ne _ _ _ _ (by omega), u2_ne _ _ _ _ (by omega)]
  exact ⟨tOk_k (fun q i z1 z2 => f q i (by omega) (by omega)) b1, tOk_k (fun q i z1 z2 => f q i (by omega) (by omega)) b2, tOk_k (fun q i z1 z2 => f q i (by omega) (by omega)) b3, ⟨k, hk, u2_s _ _ _ _⟩, ⟨c, hc, by rw [f _ _ (by omega) (by omega)]; exact e2⟩⟩
theorem mKp_u {m nt k : Nat} {a : Int32} {h : xI} (hI : mOk h m) (hk : k ≤ 150) : mOk (u2 (u2 h (m + 9) nt a) m 11 (nI k)) m := by
  obtain ⟨b1, b2, b3, -⟩ := hI
  have f : ∀ q i, q ≠ m + 9 → q ≠ m → u2 (u2 h (m + 9) nt a) m 11 (nI k) q i = h q i := fun q i z1 z2 => by rw [u2_ne _ _ _ _ (by omega), u2_ne _ _ _ _ (by omega)]
  exact ⟨rU_c (fun i hi => f _ _ (by omega) (by omega)) b1, rS_c (fun i hi => f _ _ (by omega) (by omega)) b2, fun i hi => ⟨rU_c (fun j hj => f _ _ (by omega) (by omega)) (b3 i hi).1, rS_c (fun j hj => f _ _ (by omega) (by omega)) (b3 i hi).2⟩, ⟨k, hk, u2_s _ _ _ _⟩⟩
theorem J_type {x m nt : Nat} {h h1 h2 : xI} {g g1 g2 : xJ} {a : Int32} {v1 v2 : Option Value} (hxm : x + 38 < m) (hJ : J x m h) (hnt : nt ≤ 150) (H1 : tyC x nt a h g v1 h1 g1) (H2 : tyM m nt a h1 g1 v2 h2 g2) : J x m h2 ∧ v1 = v2 := by
  by_cases q : 0 ≤ a.toInt ∧ a.toInt < 128
  · by_cases q2 : nt = 150
    · obtain ⟨rfl, rfl, -⟩ := (H1.1 q).1 q2
      obtain ⟨rfl, rfl, -⟩ := (H2.1 (by omega)).1 q2
      exact ⟨J_rr hxm hJ (by omega), rfl⟩
    · obtain ⟨rfl, rfl, -⟩ := (H1.1 q).2 q2
      obtain ⟨rfl, rfl, -⟩ := (H2.1 (by omega)).2 q2
      refine ⟨⟨cOk_f (fun q i z1 z2 => by rw [u2_ne _ _ _ _ (by omega), u2_ne _ _ _ _ (by omega)]) (cKp_u hJ.1 (by omega)), mKp_u (mOk_f (fun q i z1 z2 => by rw [u2_ne _ _ _ _ (by omega), u2_ne _ _ _ _ (by omega)]) hJ.2.1) (by omega), ?_, fun i => ?_⟩, rfl⟩
      · rw [u2_s, u2_ne _ _ _ _ (by omega), u2_ne _ _ _ _ (by omega), u2_s]
      · rw [u2_ne _ _ _ _ (by omega), u2_ne _ _ _ _ (by omega), u2_ne _ _ _ _ (by omega), u2_ne _ _ _ _ (by omega), u2_ne _ _ _ _ (by omega), u2_ne _ _ _ _ (by omega), u2_ne _ _ _ _ (by omega), u2_ne _ _ _ _ (by omega)]
        exact hJ.2.2.2 i
  · obtain ⟨rfl, rfl, -⟩ := H1.2 q
    obtain ⟨rfl, rfl, -⟩ := H2.2 (by omega)
    exact ⟨J_rr hxm hJ (by omega), rfl⟩
theorem J_clear {x m : Nat} {h h1 h2 : xI} {g g1 g2 : xJ} {v1 v2 : Option Value} (hxm : x + 38 < m) (hJ : J x m h) (H1 : px (some (.int (h (x + 33) 2))) (u2 h (x + 33) 2 (nI 0)) g v1 h1 g1) (H2 : px (some (.int (h1 m 11))) (u2 h1 m 11 (nI 0)) g1 v2 h2 g2) : J x m h2 ∧ v1 = v2 := by
  obtain ⟨rfl, rfl, -⟩ := H1
  obtain ⟨rfl, rfl, -⟩ := H2
  obtain ⟨b1, b2, b3, -, ⟨c, hc, e2⟩⟩ := hJ.1
  obtain ⟨d1, d2, d3, -⟩ := hJ.2.1
  have f : ∀ q i, q ≠ x + 33 → q ≠ m → u2 (u2 h (x + 33) 2 (nI 0)) m 11 (nI 0) q i = h q i := fun q i z1 z2 => by rw [u2_ne _ _ _ _ (by omega), u2_ne _ _ _ _ (by omega)]
  refine ⟨⟨⟨tOk_k (fun q i z1 z2 => f q i (by omega) (by omega)) b1, tOk_k (fun q i z1 z2 => f q i (by omega) (by omega)) b2, tOk_k (fun q i z1 z2 => f q i (by omega) (by omega)) b3, ⟨0, by omega, by rw [u2_ne _ _ _ _ (by omega), u2_s]⟩, ⟨c, hc, by rw [f _ _ (by omega) (by omega)]; exact e2⟩⟩, ⟨rU_c (fun i hi => f _ _ (by omega) (by omega)) d1, rS_c (fun i hi => f _ _ (by omega) (by omega)) d2, fun i hi => ⟨rU_c (fun j hj => f _ _ (by omega) (by omega)) (d3 i hi).1, rS_c (fun j hj => f _ _ (by omega) (by omega)) (d3 i hi).2⟩, ⟨0, by omega, u2_s _ _ _ _⟩⟩, ?_, fun i => ?_⟩, ?_⟩
  · rw [u2_ne _ _ _ _ (by omega), u2_s, u2_s]
  · rw [f _ _ (by omega) (by omega), f _ _ (by omega) (by omega)]; exact hJ.2.2.2 i
  · rw [u2_ne _ _ _ _ (by omega), hJ.2.2.1]
def imC (x : Nat) (a : Int32) (h : xI) (g : xJ) : Option Value → xI → xJ → Prop := pif (a = 0) (px (some (.int (nI 1))) (u2 (taH h (x + 10) (x + 1)) (x + 26) 0 (vp_nar .boolean (nI 1))) g) (pif (a = 1) (px (some (.int (nI 1))) (u2 (taH h (x + 18) (x + 1)) (x + 26) 1 (vp_nar .boolean (nI 1))) g) (px (some (.int (-2 : Int32))) (rcH h x 9) g))
def imM (m : Nat) (a : Int32) (h : xI) (g : xJ) : Option Value → xI → xJ → Prop := pif (0 ≤ a.toInt ∧ a.toInt ≤ 1) (px (some (.int (nI 1))) (u2 (cpS h (m + 1) 0 (m + 2) (310 * a.toInt.toNat) 310) (m + 3) a.toInt.toNat (vp_nar .boolean (nI 1))) g) (px (some (.int (-2 : Int32))) (rfH h m 0) g)
theorem imC_i {x : Nat} {a : Int32} {h h' : xI} {g g' : xJ} {v : Option Value} (H : imC x a h g v h' g') : isI v := isI_p H isI_x (fun z => isI_p z isI_x isI_x)
theorem imM_i {m : Nat} {a : Int32} {h h' : xI} {g g' : xJ} {v : Option Value} (H : imM m a h g v h' g') : isI v := isI_p H isI_x isI_x
theorem im_ok {x t k : Nat} {w0 : Int32} {h : xI} (hI : cOk h x) (ht : t = x + 10 ∨ t = x + 18) : cOk (u2 (taH h t (x + 1)) (x + 26) k w0) x := by
  obtain ⟨b1, b2, b3, ⟨n, hn, e⟩, ⟨c, hc, e2⟩⟩ := hI
  have n1 : tOk (taH h t (x + 1)) t := taH_ok (by omega) b1
  have f : ∀ q i, q ≠ x + 26 → (q < t ∨ t + 7 < q) → u2 (taH h t (x + 1)) (x + 26) k w0 q i = h q i := fun q i z1 z2 => by rw [u2_ne _ _ _ _ (by omega), taH_ne _ _ _ (by omega)]
  have g : ∀ q i, q ≠ x + 26 → u2 (taH h t (x + 1)) (x + 26) k w0 q i = taH h t (x + 1) q i := fun q i z1 => u2_ne _ _ _ _ (by omega)
  refine ⟨tOk_k (fun q i z1 z2 => f q i (by omega) (by omega)) b1, ?_, ?_, ⟨n, hn, by rw [f _ _ (by omega) (by omega)]; exact e⟩, ⟨c, hc, by rw [f _ _ (by omega) (by omega)]; exact e2⟩⟩
  · rcases ht with rfl | rfl
    · exact tOk_k (fun q i z1 z2 => g q i (by omega)) n1
    · exact tOk_k (fun q i z1 z2 => f q i (by omega) (by omega)) b2
  · rcases ht with rfl | rfl
    · exact tOk_k (fun q i z1 z2 => f q i (by omega) (by omega)) b3
    · exact tOk_k (fun q i z1 z2 => g q i (by omega)) n1
theorem imM_ok {m k : Nat} {w0 : Int32} {h : xI} (hI : mOk h m) (hk : k < 2) : mOk (u2 (cpS h (m + 1) 0 (m + 2) (310 * k) 310) (m + 3) k w0) m := by
  obtain ⟨b1, b2, b3, ⟨n, hn, e⟩⟩ := hI
  have f : ∀ q i, q ≠ m + 2 → q ≠ m + 3 → u2 (cpS h (m + 1) 0 (m + 2) (310 * k) 310) (m + 3) k w0 q i = h q i := fun q i z1 z2 => by rw [u2_ne _ _ _ _ (by omega), cpS_ne _ _ _ _ _ _ (by omega)]
  refine ⟨rU_c (fun i hi => f _ _ (by omega) (by omega)) b1, rS_c (fun i hi => f _ _ (by omega) (by omega)) b2, fun i hi => ?_, ⟨n, hn, by rw [f _ _ (by omega) (by omega)]; exact e⟩⟩
  by_cases q : i = k
  · subst q
    have g : ∀ j, j < 310 → u2 (cpS h (m + 1) 0 (m + 2) (310 * i) 310) (m + 3) i w0 (m + 2) (310 * i + j) = h (m + 1) (0 + j) := fun j hj => by rw [u2_ne _ _ _ _ (by omega), cpS_at _ _ _ _ _ _ ⟨rfl, by omega, by omega⟩, show 310 * i + j - 310 * i + 0 = 0 + j by omega]
    exact ⟨rU_c (fun j hj => g j hj) b1, rS_c (fun j hj => g j (by omega)) b2⟩
  · have g : ∀ j, j < 310 → u2 (cpS h (m + 1) 0 (m + 2) (310 * k) 310) (m + 3) k w0 (m + 2) (310 * i + j) = h (m + 2) (310 * i + j) := fun j hj => by rw [u2_ne _ _ _ _ (by omega), cpS_ne _ _ _ _ _ _ (by omega)]
    exact ⟨rU_c (fun j hj => g j hj) (b3 i hi).1, rS_c (fun j hj => g j (by omega)) (b3 i hi).2⟩
theorem J_im1 {x m t k : Nat} {w0 : Int32} {h : xI} (hxm : x + 38 < m) (hJ : J x m h) (ht : t = x + 10 ∨ t = x + 18) (hk : k < 2) : J x m (u2 (cpS (u2 (taH h t (x + 1)) (x + 26) k w0) (m + 1) 0 (m + 2) (310 * k) 310) (m + 3) k w0) := by
  have fx : ∀ q i, q < x ∨ x + 38 < q → u2 (taH h t (x + 1)) (x + 26) k w0 q i = h q i := fun q i z => by rw [u2_ne _ _ _ _ (by omega), taH_ne _ _ _ (by omega)]
  have fm : ∀ q i, q ≠ m + 2 → q ≠ m + 3 → u2 (cpS (u2 (taH h t (x + 1)) (x + 26) k w0) (m + 1) 0 (m + 2) (310 * k) 310) (m + 3) k w0 q i = u2 (taH h t (x + 1)) (x + 26) k w0 q i := fun q i z1 z2 => by rw [u2_ne _ _ _ _ (by omega), cpS_ne _ _ _ _ _ _ (by omega)]
  refine ⟨cOk_f (fun q i z1 z2 => fm q i (by omega) (by omega)) (im_ok hJ.1 ht), imM_ok (mOk_f (fun q i z1 z2 => fx q i (by omega)) hJ.2.1) hk, ?_, fun i => ?_⟩
  · rw [fm _ _ (by omega) (by omega), fm _ _ (by omega) (by omega), fx m 11 (by omega), u2_ne _ _ _ _ (by omega), taH_ne _ _ _ (by omega)]; exact hJ.2.2.1
  · rw [fm _ _ (by omega) (by omega)]
    by_cases q : i = k
    · subst q; rw [u2_s, u2_s]
    · rw [u2_ne _ _ _ _ (by omega), u2_ne _ _ _ _ (by omega), cpS_ne _ _ _ _ _ _ (by omega), fx _ _ (by omega), taH_ne _ _ _ (by omega)]; exact hJ.2.2.2 i
theorem J_image {x m : Nat} {h h1 h2 : xI} {g g1 g2 : xJ} {a : Int32} {v1 v2 : Option Value} (hxm : x + 38 < m) (hJ : J x m h) (H1 : imC x a h g v1 h1 g1) (H2 : imM m a h1 g1 v2 h2 g2) : J x m h2 ∧ v1 = v2 := by
  by_cases q : a = 0
  · obtain ⟨rfl, rfl, -⟩ := H1.1 q
    subst q
    obtain ⟨rfl, rfl, -⟩ := H2.1 (by decide)
    exact ⟨J_im1 (t := x + 10) (k := 0) hxm hJ (Or.inl rfl) (by omega), rfl⟩
  · by_cases q2 : a = 1
    · obtain ⟨rfl, rfl, -⟩ := (H1.2 q).1 q2
      subst q2
      obtain ⟨rfl, rfl, -⟩ := H2.1 (by decide)
      exact ⟨J_im1 (t := x + 18) (k := 1) hxm hJ (Or.inr rfl) (by omega), rfl⟩
    · obtain ⟨rfl, rfl, -⟩ := (H1.2 q).2 q2
      have z : ¬ (0 ≤ a.toInt ∧ a.toInt ≤ 1) := fun z => by
        rcases (show a.toInt = 0 ∨ a.toInt = 1 by omega) with z2 | z2
        · exact q (Int32.toInt_inj.mp (z2.trans (by decide)))
        · exact q2 (Int32.toInt_inj.mp (z2.trans (by decide)))
      obtain ⟨rfl, rfl, -⟩ := H2.2 z
      exact ⟨J_rr hxm hJ (by omega), rfl⟩
def frC (x : Nat) (a : Int32) (h : xI) (g : xJ) : Option Value → xI → xJ → Prop := pif (a = 0) (pif (h (x + 26) 0 = 0) (px (some (.int (-3 : Int32))) (rcH h x 10) g) (px (some (.int (nI 1))) (taH h (x + 1) (x + 10)) g)) (pif (a = 1) (pif (h (x + 26) 1 = 0) (px (some (.int (-3 : Int32))) (rcH h x 10) g) (px (some (.int (nI 1))) (taH h (x + 1) (x + 18)) g)) (px (some (.int (-2 : Int32))) (rcH h x 9) g))
def frM (m : Nat) (a : Int32) (h : xI) (g : xJ) : Option Value → xI → xJ → Prop := pif (0 ≤ a.toInt ∧ a.toInt ≤ 1) (pif (¬ h (m + 3) a.toInt.toNat = 0) (px (some (.int (nI 1))) (cpS h (m + 2) (310 * a.toInt.toNat) (m + 1) 0 310) g) (px (some (.int (-3 : Int32))) (rfH h m 1) g)) (px (some (.int (-2 : Int32))) (rfH h m 0) g)
theorem frC_i {x : Nat} {a : Int32} {h h' : xI} {g g' : xJ} {v : Option Value} (H : frC x a h g v h' g') : isI v := isI_p H (fun z => isI_p z isI_x isI_x) (fun z => isI_p z (fun z => isI_p z isI_x isI_x) isI_x)
theorem frM_i {m : Nat} {a : Int32} {h h' : xI} {g g' : xJ} {v : Option Value} (H : frM m a h g v h' g') : isI v := isI_p H (fun z => isI_p z isI_x isI_x) isI_x
theorem cKp_from {x t : Nat} {h : xI} (hI : cOk h x) (ht : t = x + 10 ∨ t = x + 18) : cKp x h (taH h (x + 1) t) := by
  refine cKp_n hI (fun q i z => taH_ne _ _ _ (by omega)) (taH_ok (by omega) ?_)
  rcases ht with rfl | rfl
  · exact hI.2.1
  · exact hI.2.2.1
theorem mKp_from {m k : Nat} {h : xI} (hI : mOk h m) (hk : k < 2) : mKp m h (cpS h (m + 2) (310 * k) (m + 1) 0 310) := by
  have g : ∀ j, j < 310 → cpS h (m + 2) (310 * k) (m + 1) 0 310 (m + 1) (0 + j) = h (m + 2) (310 * k + j) := fun j hj => by rw [cpS_at _ _ _ _ _ _ ⟨rfl, by omega, by omega⟩, show 0 + j - 0 + 310 * k = 310 * k + j by omega]
  exact mKp_a hI (fun q i z => cpS_ne _ _ _ _ _ _ (by omega)) (rU_c (fun j hj => g j hj) (hI.2.2.1 k hk).1) (rS_c (fun j hj => g j (by omega)) (hI.2.2.1 k hk).2)
theorem J_fr1 {x m t k : Nat} {h h1 h2 : xI} {g g1 g2 : xJ} {v1 v2 : Option Value} (hxm : x + 38 < m) (hJ : J x m h) (ht : t = x + 10 ∨ t = x + 18) (hk : k < 2) (H1 : pif (h (x + 26) k = 0) (px (some (.int (-3 : Int32))) (rcH h x 10) g) (px (some (.int (nI 1))) (taH h (x + 1) t) g) v1 h1 g1) (H2 : pif (¬ h1 (m + 3) k = 0) (px (some (.int (nI 1))) (cpS h1 (m + 2) (310 * k) (m + 1) 0 310) g1) (px (some (.int (-3 : Int32))) (rfH h1 m 1) g1) v2 h2 g2) : J x m h2 ∧ v1 = v2 := by
  by_cases q : h (x + 26) k = 0
  · obtain ⟨rfl, rfl, -⟩ := H1.1 q
    obtain ⟨rfl, rfl, -⟩ := H2.2 (fun z => z (by rw [rcH_ne _ _ _ (by omega), ← hJ.2.2.2]; exact q))
    exact ⟨J_rr hxm hJ (by omega), rfl⟩
  · obtain ⟨rfl, rfl, -⟩ := H1.2 q
    obtain ⟨rfl, rfl, -⟩ := H2.1 (by rw [taH_ne _ _ _ (by omega), ← hJ.2.2.2]; exact q)
    have a := cKp_from hJ.1 ht
    exact ⟨J_kk hxm hJ a (mKp_from (J_1 hxm hJ a) hk), rfl⟩
theorem J_from {x m : Nat} {h h1 h2 : xI} {g g1 g2 : xJ} {a : Int32} {v1 v2 : Option Value} (hxm : x + 38 < m) (hJ : J x m h) (H1 : frC x a h g v1 h1 g1) (H2 : frM m a h1 g1 v2 h2 g2) : J x m h2 ∧ v1 = v2 := by
  by_cases q : a = 0
  · have z1 := H1.1 q
    subst q
    have z2 := H2.1 (by decide)
    exact J_fr1 (k := 0) hxm hJ (Or.inl rfl) (by omega) z1 z2
  · by_cases q2 : a = 1
    · have z1 := (H1.2 q).1 q2
      subst q2
      have z2 := H2.1 (by decide)
      exact J_fr1 (k := 1) hxm hJ (Or.inr rfl) (by omega) z1 z2
    · obtain ⟨rfl, rfl, -⟩ := (H1.2 q).2 q2
      have z : ¬ (0 ≤ a.toInt ∧ a.toInt ≤ 1) := fun z => by
        rcases (show a.toInt = 0 ∨ a.toInt = 1 by omega) with z2 | z2
        · exact q (Int32.toInt_inj.mp (z2.trans (by decide)))
        · exact q2 (Int32.toInt_inj.mp (z2.trans (by decide)))
      obtain ⟨rfl, rfl, -⟩ := H2.2 z
      exact ⟨J_rr hxm hJ (by omega), rfl⟩
