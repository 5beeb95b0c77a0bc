/-! BOTH SIDES, 2: what the reference's calls keep -/
theorem mKp_w {m : Nat} {h h' : xI} (hI : mOk h m) (a : mW m h h') : mKp m h h' := ⟨fun q i z => a.1 q i (by unfold SM; omega), mOk_w hI a, a.1 _ _ (by unfold SM; omega), fun i => a.1 _ _ (by unfold SM; omega)⟩
theorem mKp_rf {m s : Nat} {h : xI} (hI : mOk h m) : mKp m h (rfH h m s) := mKp_w hI ⟨fun q i z => rfH_ne _ _ _ (fun e => z (by unfold SM; omega)), rU_k (fun i => rfH_ne _ _ _ (by omega)) hI.1⟩
theorem mKp_r {m : Nat} {h : xI} (hI : mOk h m) : mKp m h h := mKp_w hI (mW_r hI)
/-- a call that changes no more than what is NOW -/
theorem mKp_a {m : Nat} {h h' : xI} (hI : mOk h m) (f : ∀ q i, q ≠ m + 1 → h' q i = h q i) (u : rU h' (m + 1) 0) (s : rS h' (m + 1) 0) : mKp m h h' := by
  obtain ⟨-, -, b3, ⟨n, hn, e⟩⟩ := hI
  exact ⟨fun q i z => f q i (by omega), ⟨u, s, fun i hi => ⟨rU_c (fun j hj => f _ _ (by omega)) (b3 i hi).1, rS_c (fun j hj => f _ _ (by omega)) (b3 i hi).2⟩, ⟨n, hn, by rw [f _ _ (by omega)]; exact e⟩⟩, f _ _ (by omega), fun i => f _ _ (by omega)⟩
theorem rU_lo {h h' : xI} {q : Nat} (H : rU h q 0) (e2 : ∃ n, n ≤ 8 ∧ h' q 2 = nI n) (e28 : ∃ c, c < 25 ∧ h' q 28 = nI c) (ep : ∀ i, 94 ≤ i → h' q i = h q i) : rU h' q 0 := by
  obtain ⟨-, -, b3⟩ := H
  refine ⟨e2, e28, fun r hr => ?_⟩
  obtain ⟨c, hc, e⟩ := b3 r hr
  exact ⟨c, hc, by rw [ep _ (by omega)]; exact e⟩
theorem mKp_look {m : Nat} {h h' : xI} {g g' : xJ} {P : Prop} {a b : Int32} {v : Option Value} (hI : mOk h m) (H : pif P (px (some (.int a)) h g) (px (some (.int b)) (rfH h m 0) g) v h' g') : isI v ∧ mKp m h h' := by
  by_cases q : P
  · obtain ⟨rfl, rfl, -⟩ := H.1 q; exact ⟨⟨_, rfl⟩, mKp_r hI⟩
  · obtain ⟨rfl, rfl, -⟩ := H.2 q; exact ⟨⟨_, rfl⟩, mKp_rf hI⟩
theorem mKp_part {m : Nat} {h h' : xI} {g g' : xJ} {P Q : Prop} {a b c : Int64} {v : Option Value} (hI : mOk h m) (H : pif P (px (some (.long a)) h g) (pif Q (px (some (.long b)) h g) (px (some (.long c)) (rfH h m 0) g)) v h' g') : (∃ y, v = some (.long y)) ∧ mKp m h h' := by
  by_cases q : P
  · obtain ⟨rfl, rfl, -⟩ := H.1 q; exact ⟨⟨_, rfl⟩, mKp_r hI⟩
  · by_cases q2 : Q
    · obtain ⟨rfl, rfl, -⟩ := (H.2 q).1 q2; exact ⟨⟨_, rfl⟩, mKp_r hI⟩
    · obtain ⟨rfl, rfl, -⟩ := (H.2 q).2 q2; exact ⟨⟨_, rfl⟩, mKp_rf hI⟩
theorem mKp_kinds {m : Nat} {h h' : xI} {g g' : xJ} {a : Int32} {v : Option Value} (hI : mOk h m) (H : px (some (.int a)) h g v h' g') : isI v ∧ mKp m h h' := by
  obtain ⟨rfl, rfl, -⟩ := H; exact ⟨⟨_, rfl⟩, mKp_r hI⟩
theorem mKp_hand {m n : Nat} {h h' : xI} {g g' : xJ} {P : Prop} {a b : Int32} {v : Option Value} (hI : mOk h m) (H : pif P (px (some (.int a)) (wkN (m + 5) n (haH h m)) g) (px (some (.int b)) (rfH h m 0) g) v h' g') : isI v ∧ mKp m h h' := by
  by_cases q : P
  · obtain ⟨rfl, rfl, -⟩ := H.1 q
    exact ⟨⟨_, rfl⟩, mKp_w hI ⟨fun q i z => by rw [wkN_ne _ (by unfold SM at z; omega), haH_ne _ _ (by unfold SM at z; omega)], rU_k (fun i => by rw [wkN_ne _ (by omega), haH_ne _ _ (by omega)]) hI.1⟩⟩
  · obtain ⟨rfl, rfl, -⟩ := H.2 q; exact ⟨⟨_, rfl⟩, mKp_rf hI⟩
theorem mKp_nave {m : Nat} {h h' : xI} {g g' : xJ} {kd c y : Int32} {v : Option Value} (hI : mOk h m) (H : pif ((0 ≤ kd.toInt ∧ kd.toInt < 6) ∧ (0 ≤ c.toInt ∧ c.toInt < 25)) (px (some (.int y)) (bgH h (m + 1) kd c) g) (px (some (.int (-2 : Int32))) (rfH h m 0) g) v h' g') : isI v ∧ mKp m h h' := by
  by_cases q : (0 ≤ kd.toInt ∧ kd.toInt < 6) ∧ (0 ≤ c.toInt ∧ c.toInt < 25)
  · obtain ⟨rfl, rfl, -⟩ := H.1 q
    obtain ⟨j, hj, rfl⟩ := nI_i (x := c) (n := 25) q.2.1 (by omega)
    refine ⟨⟨_, rfl⟩, mKp_a hI (fun q i z => bgH_ne _ _ _ _ (by omega)) (rU_lo hI.1 ⟨0, by omega, bgH_0 _ _ _ _ (by omega)⟩ ⟨j, hj, bgH_28 _ _ _ _⟩ (fun i hi => bgH_ne _ _ _ _ (by omega))) ⟨⟨0, by omega, bgH_0 _ _ _ _ (by omega)⟩, ⟨0, by omega, bgH_0 _ _ _ _ (by omega)⟩⟩⟩
  · obtain ⟨rfl, rfl, -⟩ := H.2 q; exact ⟨⟨_, rfl⟩, mKp_rf hI⟩
/-- slot i becomes k, and none may be undone -/
theorem mKp_set {m i : Nat} {h : xI} {k : Int32} (hI : mOk h m) (hi : 30 ≤ i ∧ i < 56) : mKp m h (u2 (u2 h (m + 1) i k) (m + 1) 2 (nI 0)) := by
  obtain ⟨b1, ⟨⟨n, hn, e1⟩, ⟨n', hn', e2⟩⟩, -⟩ := id hI
  obtain ⟨-, ⟨c, hc, e⟩, -⟩ := id b1
  refine mKp_a hI (fun q i z => by rw [u2_ne _ _ _ _ (by omega), u2_ne _ _ _ _ (by omega)]) (rU_lo b1 ⟨0, by omega, u2_s _ _ _ _⟩ ⟨c, hc, by rw [u2_ne _ _ _ _ (by omega), u2_ne _ _ _ _ (by omega)]; exact e⟩ (fun j hj => by rw [u2_ne _ _ _ _ (by omega), u2_ne _ _ _ _ (by omega)])) ⟨⟨n, hn, by rw [u2_ne _ _ _ _ (by omega), u2_ne _ _ _ _ (by omega)]; exact e1⟩, ⟨n', hn', by rw [u2_ne _ _ _ _ (by omega), u2_ne _ _ _ _ (by omega)]; exact e2⟩⟩
theorem mKp_harrow {m : Nat} {h h' : xI} {g g' : xJ} {P : Prop} {kd y : Int32} {v : Option Value} (hI : mOk h m) (H : pif P (px (some (.int y)) (u2 (u2 h (m + 1) 30 kd) (m + 1) 2 (nI 0)) g) (px (some (.int (-2 : Int32))) (rfH h m 0) g) v h' g') : isI v ∧ mKp m h h' := by
  by_cases q : P
  · obtain ⟨rfl, rfl, -⟩ := H.1 q; exact ⟨⟨_, rfl⟩, mKp_set hI (by omega)⟩
  · obtain ⟨rfl, rfl, -⟩ := H.2 q; exact ⟨⟨_, rfl⟩, mKp_rf hI⟩
theorem mKp_stony {m : Nat} {h h' : xI} {g g' : xJ} {P : Prop} {c kd y : Int32} {v : Option Value} (hI : mOk h m) (H : pif ((0 ≤ c.toInt ∧ c.toInt < 25) ∧ P) (px (some (.int y)) (u2 (u2 h (m + 1) (31 + c.toInt.toNat) kd) (m + 1) 2 (nI 0)) g) (px (some (.int (-2 : Int32))) (rfH h m 0) g) v h' g') : isI v ∧ mKp m h h' := by
  by_cases q : (0 ≤ c.toInt ∧ c.toInt < 25) ∧ P
  · obtain ⟨rfl, rfl, -⟩ := H.1 q; exact ⟨⟨_, rfl⟩, mKp_set hI (by omega)⟩
  · obtain ⟨rfl, rfl, -⟩ := H.2 q; exact ⟨⟨_, rfl⟩, mKp_rf hI⟩
theorem mKp_forget {m : Nat} {h h' : xI} {g g' : xJ} {a y : Int32} {v : Option Value} (hI : mOk h m) (H : pif (0 ≤ a.toInt ∧ a.toInt ≤ 1) (px (some (.int y)) (u2 h (m + 1) (0 + a.toInt.toNat) (nI 0)) g) (px (some (.int (-2 : Int32))) (rfH h m 0) g) v h' g') : isI v ∧ mKp m h h' := by
  by_cases q : 0 ≤ a.toInt ∧ a.toInt ≤ 1
  · obtain ⟨rfl, rfl, -⟩ := H.1 q
    obtain ⟨b1, ⟨⟨n, hn, e1⟩, ⟨n', hn', e2⟩⟩, -⟩ := id hI
    obtain ⟨b2, ⟨c, hc, e⟩, -⟩ := id b1
    obtain ⟨k, hk, ek⟩ := b2
    refine ⟨⟨_, rfl⟩, mKp_a hI (fun q i z => u2_ne _ _ _ _ (by omega)) (rU_lo b1 ⟨k, hk, by rw [u2_ne _ _ _ _ (by omega)]; exact ek⟩ ⟨c, hc, by rw [u2_ne _ _ _ _ (by omega)]; exact e⟩ (fun j hj => u2_ne _ _ _ _ (by omega))) ?_⟩
    rcases (show a.toInt.toNat = 0 ∨ a.toInt.toNat = 1 by omega) with z | z
    · rw [z]; exact ⟨⟨0, by omega, u2_s _ _ _ _⟩, ⟨n', hn', by rw [u2_ne _ _ _ _ (by omega)]; exact e2⟩⟩
    · rw [z]; exact ⟨⟨n, hn, by rw [u2_ne _ _ _ _ (by omega)]; exact e1⟩, ⟨0, by omega, u2_s _ _ _ _⟩⟩
  · obtain ⟨rfl, rfl, -⟩ := H.2 q; exact ⟨⟨_, rfl⟩, mKp_rf hI⟩
theorem mKp_seen {m n : Nat} {h h' : xI} {g g' : xJ} {P : Prop} {c d a x : Int32} {v : Option Value} (hI : mOk h m) (hn : n ≤ 5) (H : pif P (pif (n = 5) (px (some (.int (-4 : Int32))) (rfH h m 2) g) (px (some (.int (nI (n + 1)))) (u2 (u2 (u2 (u2 (u2 h (m + 1) (56 + 4 * n) c) (m + 1) (56 + 4 * n + 1) d) (m + 1) (56 + 4 * n + 2) a) (m + 1) (56 + 4 * n + 3) x) (m + 1) 0 (nI (n + 1))) g)) (px (some (.int (-2 : Int32))) (rfH h m 0) g) v h' g') : isI v ∧ mKp m h h' := by
  by_cases q : P
  · by_cases q2 : n = 5
    · obtain ⟨rfl, rfl, -⟩ := (H.1 q).1 q2; exact ⟨⟨_, rfl⟩, mKp_rf hI⟩
    · obtain ⟨rfl, rfl, -⟩ := (H.1 q).2 q2
      obtain ⟨b1, ⟨-, ⟨n', hn', e2⟩⟩, -⟩ := id hI
      obtain ⟨⟨k, hk, ek⟩, ⟨c0, hc, e⟩, -⟩ := id b1
      have f : ∀ q i, (q ≠ m + 1 ∨ (i ≠ 0 ∧ (i < 56 ∨ 76 ≤ i))) → (u2 (u2 (u2 (u2 (u2 h (m + 1) (56 + 4 * n) c) (m + 1) (56 + 4 * n + 1) d) (m + 1) (56 + 4 * n + 2) a) (m + 1) (56 + 4 * n + 3) x) (m + 1) 0 (nI (n + 1))) q i = h q i := fun q i z => by rw [u2_ne _ _ _ _ (by omega), u2_ne _ _ _ _ (by omega), u2_ne _ _ _ _ (by omega), u2_ne _ _ _ _ (by omega), u2_ne _ _ _ _ (by omega)]
      exact ⟨⟨_, rfl⟩, mKp_a hI (fun q i z => f q i (by omega)) (rU_lo b1 ⟨k, hk, by rw [f _ _ (by omega)]; exact ek⟩ ⟨c0, hc, by rw [f _ _ (by omega)]; exact e⟩ (fun j hj => f _ _ (by omega))) ⟨⟨n + 1, by omega, u2_s _ _ _ _⟩, ⟨n', hn', by rw [f _ _ (by omega)]; exact e2⟩⟩⟩
  · obtain ⟨rfl, rfl, -⟩ := H.2 q; exact ⟨⟨_, rfl⟩, mKp_rf hI⟩
theorem mKp_mark {m n : Nat} {h h' : xI} {g g' : xJ} {P : Prop} {s d x : Int32} {v : Option Value} (hI : mOk h m) (hn : n ≤ 6) (H : pif P (pif (n = 6) (px (some (.int (-4 : Int32))) (rfH h m 2) g) (px (some (.int (nI (n + 1)))) (u2 (u2 (u2 (u2 h (m + 1) (76 + 3 * n) s) (m + 1) (76 + 3 * n + 1) d) (m + 1) (76 + 3 * n + 2) x) (m + 1) 1 (nI (n + 1))) g)) (px (some (.int (-2 : Int32))) (rfH h m 0) g) v h' g') : isI v ∧ mKp m h h' := by
  by_cases q : P
  · by_cases q2 : n = 6
    · obtain ⟨rfl, rfl, -⟩ := (H.1 q).1 q2; exact ⟨⟨_, rfl⟩, mKp_rf hI⟩
    · obtain ⟨rfl, rfl, -⟩ := (H.1 q).2 q2
      obtain ⟨b1, ⟨⟨n', hn', e2⟩, -⟩, -⟩ := id hI
      obtain ⟨⟨k, hk, ek⟩, ⟨c0, hc, e⟩, -⟩ := id b1
      have f : ∀ q i, (q ≠ m + 1 ∨ (i ≠ 1 ∧ (i < 76 ∨ 94 ≤ i))) → (u2 (u2 (u2 (u2 h (m + 1) (76 + 3 * n) s) (m + 1) (76 + 3 * n + 1) d) (m + 1) (76 + 3 * n + 2) x) (m + 1) 1 (nI (n + 1))) q i = h q i := fun q i z => by rw [u2_ne _ _ _ _ (by omega), u2_ne _ _ _ _ (by omega), u2_ne _ _ _ _ (by omega), u2_ne _ _ _ _ (by omega)]
      exact ⟨⟨_, rfl⟩, mKp_a hI (fun q i z => f q i (by omega)) (rU_lo b1 ⟨k, hk, by rw [f _ _ (by omega)]; exact ek⟩ ⟨c0, hc, by rw [f _ _ (by omega)]; exact e⟩ (fun j hj => f _ _ (by omega))) ⟨⟨n', hn', by rw [f _ _ (by omega)]; exact e2⟩, ⟨n + 1, by omega, u2_s _ _ _ _⟩⟩⟩
  · obtain ⟨rfl, rfl, -⟩ := H.2 q; exact ⟨⟨_, rfl⟩, mKp_rf hI⟩
theorem svH_ne (h : xI) (q n : Nat) {p i : Nat} (hp : p ≠ q) : svH h q n p i = h p i := by
  unfold svH sv0
  rw [u2_ne _ _ _ _ (by omega), cpS_ne _ _ _ _ _ _ (by omega)]
  split
  · rw [u2_ne _ _ _ _ (by omega), cpS_ne _ _ _ _ _ _ (by omega)]
  · rfl
theorem svH_u {h : xI} {q n : Nat} (hn : n ≤ 8) (H : rU h q 0) : rU (svH h q n) q 0 := by
  obtain ⟨-, ⟨c, hc, e28⟩, pl⟩ := H
  have hs := sn_le hn
  refine ⟨⟨sn n + 1, by omega, u2_s _ _ _ _⟩, ⟨c, hc, by rw [show 0 + 28 = 28 from rfl, sv_lo h q n (by omega) (by omega)]; exact e28⟩, fun r hr => ?_⟩
  unfold svH
  rw [u2_ne _ _ _ _ (by omega)]
  by_cases e : r = sn n
  · rw [cpS_at _ _ _ _ _ _ ⟨rfl, by omega, by omega⟩, show 0 + (94 + 27 * r + 25) - (94 + 27 * sn n) + 3 = 28 by omega, sv0_lo h q n (by omega) (by omega)]
    exact ⟨c, hc, e28⟩
  · rw [cpS_ne _ _ _ _ _ _ (by omega)]
    unfold sv0
    split
    · rename_i h8
      have h7 : sn n = 7 := by unfold sn; rw [if_pos h8]
      rw [u2_ne _ _ _ _ (by omega), cpS_at _ _ _ _ _ _ ⟨rfl, by omega, by omega⟩, show 0 + (94 + 27 * r + 25) - 94 + 121 = 0 + (94 + 27 * (r + 1) + 25) by omega]
      exact pl (r + 1) (by omega)
    · exact pl r hr
theorem svH_s {h : xI} {q n : Nat} (H : rS h q 0) : rS (svH h q n) q 0 := rS_c (fun i hi => by rw [Nat.zero_add, sv_lo h q n (by omega) (by omega)]) H
/-- behind save: what lies, where THE HARROW is and the WEEK may be others -/
theorem mKp_sv {m n : Nat} {h h' : xI} (hI : mOk h m) (hn : n ≤ 8) (f : ∀ q i, (q ≠ m + 1 ∨ ((i < 3 ∨ 28 ≤ i) ∧ i ≠ 28 ∧ i ≠ 29)) → h' q i = svH h (m + 1) n q i) (e28 : ∃ c, c < 25 ∧ h' (m + 1) 28 = nI c) : mKp m h h' := by
  have u := svH_u (q := m + 1) hn hI.1
  have s := svH_s (q := m + 1) (n := n) hI.2.1
  obtain ⟨⟨k, hk, ek⟩, -, -⟩ := id u
  refine mKp_a hI (fun q i z => by rw [f q i (by omega), svH_ne _ _ _ z]) (rU_lo u ⟨k, hk, by rw [f _ _ (by omega)]; exact ek⟩ e28 (fun i hi => f _ _ (by omega))) (rS_c (fun i hi => by rw [f _ _ (by omega)]) s)
theorem sv_28 {m n : Nat} {h : xI} (hI : mOk h m) : ∃ c, c < 25 ∧ svH h (m + 1) n (m + 1) 28 = nI c := by
  obtain ⟨c, hc, e⟩ := hI.1.2.1
  exact ⟨c, hc, by rw [sv_lo h (m + 1) n (by omega) (by omega)]; exact e⟩
theorem mKp_says {m n : Nat} {h h' : xI} {g g' : xJ} {P Q : Prop} {c y z0 : Int32} {v : Option Value} (hI : mOk h m) (hn : n ≤ 8) (H : pif ((0 ≤ c.toInt ∧ c.toInt < 25) ∧ P) (pif Q (px (some (.int y)) (u2 (svH h (m + 1) n) (m + 1) (3 + c.toInt.toNat) z0) g) (px (some (.int (-3 : Int32))) (rfH h m 1) g)) (px (some (.int (-2 : Int32))) (rfH h m 0) g) v h' g') : isI v ∧ mKp m h h' := by
  by_cases q : (0 ≤ c.toInt ∧ c.toInt < 25) ∧ P
  · by_cases q2 : Q
    · obtain ⟨rfl, rfl, -⟩ := (H.1 q).1 q2
      obtain ⟨c0, hc0, e⟩ := sv_28 (n := n) hI
      exact ⟨⟨_, rfl⟩, mKp_sv hI hn (fun q i z => u2_ne _ _ _ _ (by omega)) ⟨c0, hc0, by rw [u2_ne _ _ _ _ (by omega)]; exact e⟩⟩
    · obtain ⟨rfl, rfl, -⟩ := (H.1 q).2 q2; exact ⟨⟨_, rfl⟩, mKp_rf hI⟩
  · obtain ⟨rfl, rfl, -⟩ := H.2 q; exact ⟨⟨_, rfl⟩, mKp_rf hI⟩
theorem mKp_reaps {m n : Nat} {h h' : xI} {g g' : xJ} {Q : Prop} {c y z0 : Int32} {v : Option Value} (hI : mOk h m) (hn : n ≤ 8) (H : pif (0 ≤ c.toInt ∧ c.toInt < 25) (pif Q (px (some (.int y)) (u2 (svH h (m + 1) n) (m + 1) (3 + c.toInt.toNat) z0) g) (px (some (.int (-3 : Int32))) (rfH h m 1) g)) (px (some (.int (-2 : Int32))) (rfH h m 0) g) v h' g') : isI v ∧ mKp m h h' := mKp_says (P := True) hI hn ⟨fun q => H.1 q.1, fun q => H.2 (fun z => q ⟨z, trivial⟩)⟩
theorem mKp_drags {m n p k : Nat} {h h' : xI} {g g' : xJ} {P : Prop} {y : Int32} {v : Option Value} (hI : mOk h m) (hn : n ≤ 8) (H : pif P (pif (bsN p k < 25) (px (some (.int y)) (stH (svH h (m + 1) n) (m + 1) (bsN p k)) g) (px (some (.int (-3 : Int32))) (rfH h m 1) g)) (px (some (.int (-2 : Int32))) (rfH h m 0) g) v h' g') : isI v ∧ mKp m h h' := by
  by_cases q : P
  · by_cases q2 : bsN p k < 25
    · obtain ⟨rfl, rfl, -⟩ := (H.1 q).1 q2
      exact ⟨⟨_, rfl⟩, mKp_sv hI hn (fun q i z => stH_ne _ _ _ (by omega)) ⟨_, q2, st_28 _ _ _ q2⟩⟩
    · obtain ⟨rfl, rfl, -⟩ := (H.1 q).2 q2; exact ⟨⟨_, rfl⟩, mKp_rf hI⟩
  · obtain ⟨rfl, rfl, -⟩ := H.2 q; exact ⟨⟨_, rfl⟩, mKp_rf hI⟩
theorem mKp_weeks {m n k : Nat} {h h' : xI} {g g' : xJ} {P : Prop} {y : Int32} {v : Option Value} (hI : mOk h m) (hn : n ≤ 8) (H : pif P (px (some (.int y)) (wks (m + 1) k (svH h (m + 1) n)) g) (px (some (.int (-2 : Int32))) (rfH h m 0) g) v h' g') : isI v ∧ mKp m h h' := by
  by_cases q : P
  · obtain ⟨rfl, rfl, -⟩ := H.1 q
    obtain ⟨c0, hc0, e⟩ := sv_28 (n := n) hI
    exact ⟨⟨_, rfl⟩, mKp_sv hI hn (fun q i z => wks_ne _ (by omega) _ _) ⟨c0, hc0, by rw [wks_ne _ (by omega)]; exact e⟩⟩
  · obtain ⟨rfl, rfl, -⟩ := H.2 q; exact ⟨⟨_, rfl⟩, mKp_rf hI⟩
theorem mKp_undo {m n : Nat} {h h' : xI} {g g' : xJ} {y : Int32} {v : Option Value} (hI : mOk h m) (hn : n ≤ 8) (H : pif (n = 0) (px (some (.int (-3 : Int32))) (rfH h m 1) g) (px (some (.int y)) (cpS (u2 h (m + 1) 2 (nI (n - 1))) (m + 1) (94 + 27 * (n - 1)) (m + 1) 3 27) g) v h' g') : isI v ∧ mKp m h h' := by
  by_cases q : n = 0
  · obtain ⟨rfl, rfl, -⟩ := H.1 q; exact ⟨⟨_, rfl⟩, mKp_rf hI⟩
  · obtain ⟨rfl, rfl, -⟩ := H.2 q
    obtain ⟨b1, ⟨⟨n1, hn1, e1⟩, ⟨n', hn', e2⟩⟩, -⟩ := id hI
    obtain ⟨c, hc, e⟩ := b1.2.2 (n - 1) (by omega)
    have f : ∀ q i, (q ≠ m + 1 ∨ ((i < 3 ∨ 30 ≤ i) ∧ i ≠ 2)) → cpS (u2 h (m + 1) 2 (nI (n - 1))) (m + 1) (94 + 27 * (n - 1)) (m + 1) 3 27 q i = h q i := fun q i z => by rw [cpS_ne _ _ _ _ _ _ (by omega), u2_ne _ _ _ _ (by omega)]
    refine ⟨⟨_, rfl⟩, mKp_a hI (fun q i z => f q i (by omega)) (rU_lo b1 ⟨n - 1, by omega, by rw [cpS_ne _ _ _ _ _ _ (by omega), u2_s]⟩ ⟨c, hc, ?_⟩ (fun i hi => f _ _ (by omega))) ⟨⟨n1, hn1, by rw [f _ _ (by omega)]; exact e1⟩, ⟨n', hn', by rw [f _ _ (by omega)]; exact e2⟩⟩⟩
    rw [cpS_at _ _ _ _ _ _ ⟨rfl, by omega, by omega⟩, u2_ne _ _ _ _ (by omega), show 28 - 3 + (94 + 27 * (n - 1)) = 0 + (94 + 27 * (n - 1) + 25) by omega]
    exact e
theorem mKp_read {m : Nat} {h h' : xI} (f : fR m h h') (c : mOk h' m) : mKp m h h' := ⟨fun q i z => f q i (by omega) (by omega) (by omega) (by omega), c, f _ _ (by omega) (by omega) (by omega) (by omega), fun i => f _ _ (by omega) (by omega) (by omega) (by omega)⟩
