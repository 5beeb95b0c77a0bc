/-! PHASE 2, BOTH SIDES: tell, ask -/
theorem cKp_fr {x : Nat} {h h' : xI} (hI : cOk h x) (f : ∀ q i, q ≠ x + 38 → h' q i = h q i) : cKp x h h' ∧ cQ x h h' := by
  have w : wI x h h' := ⟨fun q i z => f q i (by unfold SW at z; omega), at_k (fun i => f _ _ (by omega)) hI.1.1, paOk_k (fun q i z => f q i (by omega)) hI.1.2.1⟩
  exact ⟨cKp_w hI w, w.1⟩
theorem mKp_fr {m : Nat} {h h' : xI} (hI : mOk h m) (f : ∀ q i, q ≠ m + 8 → h' q i = h q i) : mKp m h h' ∧ mQ m h h' := by
  have w : mW m h h' := ⟨fun q i z => f q i (by unfold SM at z; omega), rU_k (fun i => f _ _ (by omega)) hI.1⟩
  exact ⟨mKp_w hI w, w.1⟩
theorem cKp_tell {x : Nat} {h h' : xI} {g g' : xJ} {P : Prop} {a : Int32} {v : Option Value} (hI : cOk h x) (H : pif P (pL a (x + 38) h) (px (some (.int (-2 : Int32))) (rcH h x 9) g) v h' g') : isI v ∧ cKp x h h' ∧ cQ x h h' := by
  by_cases q : P
  · obtain ⟨rfl, f⟩ := H.1 q; exact ⟨⟨_, rfl⟩, cKp_fr hI f⟩
  · obtain ⟨rfl, rfl, -⟩ := H.2 q; exact ⟨⟨_, rfl⟩, cKp_rc hI (by omega), cQ_rc (by omega)⟩
theorem mKp_tell {m : Nat} {h h' : xI} {g g' : xJ} {P : Prop} {a : Int32} {v : Option Value} (hI : mOk h m) (H : pif P (pL a (m + 8) h) (px (some (.int (-2 : Int32))) (rfH h m 0) g) v h' g') : isI v ∧ mKp m h h' ∧ mQ m h h' := by
  by_cases q : P
  · obtain ⟨rfl, f⟩ := H.1 q; exact ⟨⟨_, rfl⟩, mKp_fr hI f⟩
  · obtain ⟨rfl, rfl, -⟩ := H.2 q; exact ⟨⟨_, rfl⟩, mKp_rf hI, mQ_rf⟩
theorem tl_kk {x m : Nat} {h h1 h2 : xI} {g g1 g2 : xJ} {P : Prop} {a b : Int32} {v1 v2 : Option Value} (e : P → a = b) (H1 : pif P (pL a (x + 38) h) (px (some (.int (-2 : Int32))) (rcH h x 9) g) v1 h1 g1) (H2 : pif P (pL b (m + 8) h1) (px (some (.int (-2 : Int32))) (rfH h1 m 0) g1) v2 h2 g2) : v1 = v2 := by
  by_cases q : P
  · obtain ⟨rfl, -⟩ := H1.1 q
    obtain ⟨rfl, -⟩ := H2.1 q
    rw [e q]
  · obtain ⟨rfl, -⟩ := H1.2 q
    obtain ⟨rfl, -⟩ := H2.2 q
    rfl
theorem tell_e {x m n : Nat} {h h1 : xI} {c : Int32} (hn : n ≤ 5) (H : sE h (x + 1) (m + 1) 0) (hs : h (x + 1) 4 = nI n) (f : ∀ i, h1 (m + 1) i = h (m + 1) i) : loC tlT tlC 210 (dpB (fun kd => fS h x kd c n) 6) = loM tlT tlC 210 (dpB (fun kd => ¬ alS h1 (m + 1) c kd n = 0) 6) := by
  rw [lo_e (T := tlT) (fun S => mAl_le _ _ _) (by omega), said_e hn H hs f]
theorem ask_e {x m n : Nat} {h h1 : xI} (hn : n ≤ 6) (H : sE h (x + 1) (m + 1) 0) (hs : h (x + 1) 5 = nI n) (f : ∀ i, h1 (m + 1) i = h (m + 1) i) : loC akT akC 50 (dpB (fun kd => fK h x kd n) 6) = loM akT akC 50 (dpB (fun kd => ¬ alK h1 (m + 1) kd n = 0) 6) := by
  rw [lo_e (T := akT) (fun S => mAl_le _ _ _) (by omega), kinds_e hn H hs f]
