/-! PHASE 3, THE REFERENCE: its exact calls on a fresh row -/
theorem em_sv {m : Nat} {h : xI} (F : mFr m h) : em (m + 1) (svH h (m + 1) 0) := fun c hc => by
  rw [sv_lo h (m + 1) 0 (by omega) (by omega)]
  exact F.1 _ (by omega)
theorem em_wks {q : Nat} : ∀ (n : Nat) {h : xI}, em q h → em q (wks q n h)
  | 0, _, H => H
  | n + 1, h, H => by
    show em q (if nI 9999 ≤ h q 29 then h else wks q n (wkH h q))
    by_cases z : nI 9999 ≤ h q 29
    · rw [if_pos z]; exact H
    · rw [if_neg z]; exact em_wks n (em_wk H)
theorem sy_1 {m : Nat} {h : xI} {c kd : Int32} (F : mFr m h) (q : (0 ≤ c.toInt ∧ c.toInt < 25) ∧ (0 ≤ kd.toInt ∧ kd.toInt < 6)) : cn (fun z => ¬ u2 (svH h (m + 1) 0) (m + 1) (3 + c.toInt.toNat) (mV kd (nI 0) (nI 0)) (m + 1) (3 + z) = 0) 25 = 1 := cn_1 (j := c.toInt.toNat) 25 (by omega) (fun z hz => by
  by_cases e : z = c.toInt.toNat
  · obtain ⟨k, hk, rfl⟩ := nI_i (x := kd) (n := 6) q.2.1 q.2.2
    rw [e, u2_s, mV_e]
    exact ⟨fun _ => rfl, fun _ => nI_n0 (by omega) (by omega)⟩
  · rw [u2_ne _ _ _ _ (by omega), em_sv F z hz]
    exact ⟨fun w => absurd rfl w, fun w => absurd w e⟩)
theorem td_5 {m : Nat} {h : xI} (H : mFr m h) {c : Nat} (hc : c < 25) {i : Nat} (hi : i < 6) : tdO h (m + 1) c (nI i) = ofY (nI i) := by
  unfold tdO
  rw [em_a H c hc, H.1 (31 + c) (by omega), H.1 30 (by omega)]
  rcases (show i = 0 ∨ i = 1 ∨ i = 2 ∨ i = 3 ∨ i = 4 ∨ i = 5 by omega) with rfl | rfl | rfl | rfl | rfl | rfl <;> decide
theorem stY_n : ∀ n, n < 3 → stY (nI n) = nI 0 := by decide
theorem rf_nave {m : Nat} {h h2 : xI} {g g2 : xJ} {v : Option Value} {kd c : Int32} (F : mFr m h) (H : (pif ((0 ≤ kd.toInt ∧ kd.toInt < 6) ∧ (0 ≤ c.toInt ∧ c.toInt < 25)) (px (some (.int (nI (cn (fun c => ¬ h (m + 1) (3 + c) = 0) 25)))) (bgH h (m + 1) kd c) g) (px (some (.int (-2 : Int32))) (rfH h m 0) g)) v h2 g2) : v = some (.int (if (0 ≤ kd.toInt ∧ kd.toInt < 6) ∧ (0 ≤ c.toInt ∧ c.toInt < 25) then nI 0 else (-2 : Int32))) := by
  by_cases q : (0 ≤ kd.toInt ∧ kd.toInt < 6) ∧ (0 ≤ c.toInt ∧ c.toInt < 25)
  · rw [if_pos q, ← (H.1 q).1, em_0 (em_a F)]
  · rw [if_neg q, ← (H.2 q).1]
theorem rf_undo {m : Nat} {h h2 : xI} {g g2 : xJ} {v : Option Value} (F : mFr m h) (H : (pif (0 = 0) (px (some (.int (-3 : Int32))) (rfH h m 1) g) (px (some (.int ((cpS (u2 h (m + 1) 2 (nI (0 - 1))) (m + 1) (94 + 27 * (0 - 1)) (m + 1) 3 27) (m + 1) 29))) (cpS (u2 h (m + 1) 2 (nI (0 - 1))) (m + 1) (94 + 27 * (0 - 1)) (m + 1) 3 27) g)) v h2 g2) : v = some (.int ((-3 : Int32))) := by
  rw [← (H.1 rfl).1]
theorem rf_green {m : Nat} {h h2 : xI} {g g2 : xJ} {v : Option Value} {x : Int32} (F : mFr m h) (H : (pif (0 ≤ x.toInt ∧ x.toInt ≤ 60) (px (some (.int (nI (cn (fun c => ¬ hiV (wkN (m + 5) x.toInt.toNat (haH h m) (m + 5) (3 + c)) < nI 1) 25)))) (wkN (m + 5) x.toInt.toNat (haH h m)) g) (px (some (.int (-2 : Int32))) (rfH h m 0) g)) v h2 g2) : v = some (.int (if 0 ≤ x.toInt ∧ x.toInt ≤ 60 then nI 0 else (-2 : Int32))) := by
  by_cases q : 0 ≤ x.toInt ∧ x.toInt ≤ 60
  · rw [if_pos q, ← (H.1 q).1, em_1 (em_wkN _ (em_ha F))]
  · rw [if_neg q, ← (H.2 q).1]
theorem rf_says {m : Nat} {h h2 : xI} {g g2 : xJ} {v : Option Value} {c kd : Int32} (F : mFr m h) (H : (pif ((0 ≤ c.toInt ∧ c.toInt < 25) ∧ (0 ≤ kd.toInt ∧ kd.toInt < 6)) (pif (h (m + 1) (3 + c.toInt.toNat) = 0) (px (some (.int (nI (cn (fun z => ¬ u2 (svH h (m + 1) 0) (m + 1) (3 + c.toInt.toNat) (mV kd (nI 0) (nI 0)) (m + 1) (3 + z) = 0) 25)))) (u2 (svH h (m + 1) 0) (m + 1) (3 + c.toInt.toNat) (mV kd (nI 0) (nI 0))) g) (px (some (.int (-3 : Int32))) (rfH h m 1) g)) (px (some (.int (-2 : Int32))) (rfH h m 0) g)) v h2 g2) : v = some (.int (if (0 ≤ c.toInt ∧ c.toInt < 25) ∧ (0 ≤ kd.toInt ∧ kd.toInt < 6) then nI 1 else (-2 : Int32))) := by
  by_cases q : (0 ≤ c.toInt ∧ c.toInt < 25) ∧ (0 ≤ kd.toInt ∧ kd.toInt < 6)
  · rw [if_pos q, ← ((H.1 q).1 (F.1 _ (by omega))).1, sy_1 F q]
  · rw [if_neg q, ← (H.2 q).1]
theorem rf_drags {m : Nat} {h h2 : xI} {g g2 : xJ} {v : Option Value} {x : Int32} (F : mFr m h) (H : (pif (0 ≤ x.toInt ∧ x.toInt ≤ 3) (pif (bsN 0 x.toInt.toNat < 25) (px (some (.int (nI (bsN 0 x.toInt.toNat)))) (stH (svH h (m + 1) 0) (m + 1) (bsN 0 x.toInt.toNat)) g) (px (some (.int (-3 : Int32))) (rfH h m 1) g)) (px (some (.int (-2 : Int32))) (rfH h m 0) g)) v h2 g2) : v = some (.int (if 0 ≤ x.toInt ∧ x.toInt < 4 then drY x else (-2 : Int32))) := by
  by_cases q : 0 ≤ x.toInt ∧ x.toInt < 4
  · obtain ⟨n, hn, rfl⟩ := nI_i (x := x) (n := 4) q.1 q.2
    have e : (nI n).toInt.toNat = n := nI_tn (by omega)
    have H1 := H.1 (by omega)
    rw [e] at H1
    rw [if_pos q]
    by_cases b : bsN 0 n < 25
    · rw [drY_t n hn b, ← (H1.1 b).1]
    · rw [drY_f n hn b, ← (H1.2 b).1]
  · rw [if_neg q, ← (H.2 (by omega)).1]
theorem rf_reaps {m : Nat} {h h2 : xI} {g g2 : xJ} {v : Option Value} {c : Int32} (F : mFr m h) (H : (pif (0 ≤ c.toInt ∧ c.toInt < 25) (pif (¬ h (m + 1) (3 + c.toInt.toNat) = 0) (px (some (.int (hiV (h (m + 1) (3 + c.toInt.toNat))))) (u2 (svH h (m + 1) 0) (m + 1) (3 + c.toInt.toNat) (nI 0)) g) (px (some (.int (-3 : Int32))) (rfH h m 1) g)) (px (some (.int (-2 : Int32))) (rfH h m 0) g)) v h2 g2) : v = some (.int (if 0 ≤ c.toInt ∧ c.toInt < 25 then (-3 : Int32) else (-2 : Int32))) := by
  by_cases q : 0 ≤ c.toInt ∧ c.toInt < 25
  · rw [if_pos q, ← ((H.1 q).2 (fun w => w (F.1 _ (by omega)))).1]
  · rw [if_neg q, ← (H.2 q).1]
theorem rf_weeks {m : Nat} {h h2 : xI} {g g2 : xJ} {v : Option Value} {x : Int32} (F : mFr m h) (H : (pif (1 ≤ x.toInt ∧ x.toInt ≤ 60) (px (some (.int (nI (cn (fun z => ¬ hiV ((wks (m + 1) x.toInt.toNat (svH h (m + 1) 0)) (m + 1) (3 + z)) < nI 1) 25)))) (wks (m + 1) x.toInt.toNat (svH h (m + 1) 0)) g) (px (some (.int (-2 : Int32))) (rfH h m 0) g)) v h2 g2) : v = some (.int (if 1 ≤ x.toInt ∧ x.toInt ≤ 60 then nI 0 else (-2 : Int32))) := by
  by_cases q : 1 ≤ x.toInt ∧ x.toInt ≤ 60
  · rw [if_pos q, ← (H.1 q).1, em_1 (em_wks _ (em_sv F))]
  · rw [if_neg q, ← (H.2 q).1]
theorem rf_of {m : Nat} {h h2 : xI} {g g2 : xJ} {v : Option Value} {c x : Int32} (F : mFr m h) (H : (pif ((0 ≤ c.toInt ∧ c.toInt < 25) ∧ (0 ≤ x.toInt ∧ x.toInt ≤ 5)) (px (some (.int (tdO h (m + 1) c.toInt.toNat x))) h g) (px (some (.int (-2 : Int32))) (rfH h m 0) g)) v h2 g2) : v = some (.int (if 0 ≤ c.toInt ∧ c.toInt < 25 then ofY x else (-2 : Int32))) := by
  by_cases q : 0 ≤ c.toInt ∧ c.toInt < 25
  · rw [if_pos q]
    by_cases q2 : 0 ≤ x.toInt ∧ x.toInt ≤ 5
    · obtain ⟨n, hn, rfl⟩ := nI_i (x := x) (n := 6) q2.1 (by omega)
      rw [← (H.1 ⟨q, q2⟩).1, td_5 F (by omega) hn]
    · rw [← (H.2 (fun w => q2 w.2)).1, ofY_o (by omega)]
  · rw [if_neg q, ← (H.2 (fun w => q w.1)).1]
theorem rf_high {m : Nat} {h h2 : xI} {g g2 : xJ} {v : Option Value} {c x : Int32} (F : mFr m h) (H : (pif ((0 ≤ c.toInt ∧ c.toInt < 25) ∧ (0 ≤ x.toInt ∧ x.toInt ≤ 60)) (px (some (.int (hiV (wkN (m + 5) x.toInt.toNat (haH h m) (m + 5) (3 + c.toInt.toNat))))) (wkN (m + 5) x.toInt.toNat (haH h m)) g) (px (some (.int (-2 : Int32))) (rfH h m 0) g)) v h2 g2) : v = some (.int (if (0 ≤ c.toInt ∧ c.toInt < 25) ∧ (0 ≤ x.toInt ∧ x.toInt ≤ 60) then nI 0 else (-2 : Int32))) := by
  by_cases q : (0 ≤ c.toInt ∧ c.toInt < 25) ∧ (0 ≤ x.toInt ∧ x.toInt ≤ 60)
  · rw [if_pos q, ← (H.1 q).1, em_wkN _ (em_ha F) c.toInt.toNat (by omega), hiV_0]
  · rw [if_neg q, ← (H.2 q).1]
theorem rf_status {m : Nat} {h h2 : xI} {g g2 : xJ} {v : Option Value} {x : Int32} (F : mFr m h) (H : (pif (0 ≤ x.toInt ∧ x.toInt ≤ 2) (px (some (.int (h (m + 4) x.toInt.toNat))) h g) (px (some (.int (-1 : Int32))) (rfH h m 0) g)) v h2 g2) : v = some (.int (stY x)) := by
  by_cases q : 0 ≤ x.toInt ∧ x.toInt ≤ 2
  · obtain ⟨n, hn, rfl⟩ := nI_i (x := x) (n := 3) q.1 (by omega)
    rw [← (H.1 q).1, nI_tn (by omega), F.2.2 n hn, stY_n n hn]
  · rw [← (H.2 q).1, stY_o (by omega)]
theorem rf_count {m : Nat} {h h2 : xI} {g g2 : xJ} {v : Option Value} {x : Int32} (F : mFr m h) (H : (pif (0 ≤ x.toInt ∧ x.toInt ≤ 9) (px (some (.int (ctO h m x.toInt.toNat))) h g) (px (some (.int (-2 : Int32))) (rfH h m 0) g)) v h2 g2) : v = some (.int (if 0 ≤ x.toInt ∧ x.toInt < 10 then nI 0 else (-2 : Int32))) := by
  by_cases q : 0 ≤ x.toInt ∧ x.toInt < 10
  · rw [if_pos q, ← (H.1 (by omega)).1, ct_0 F (by omega)]
  · rw [if_neg q, ← (H.2 (by omega)).1]
theorem rf_part {m : Nat} {h h2 : xI} {g g2 : xJ} {v : Option Value} {x : Int32} (F : mFr m h) (H : (pif (x = 0) (px (some (.long (g m 4))) h g) (pif (x = nI 1) (px (some (.long (g m 5))) h g) (px (some (.long ((-2 : Int32).toInt64))) (rfH h m 0) g))) v h2 g2) : v = some (.long (if 0 ≤ x.toInt ∧ x.toInt < 2 then (if x = 0 then g m 4 else g m 5) else ((-2 : Int32)).toInt64)) := by
  by_cases q0 : x = 0
  · subst q0
    rw [if_pos (by decide), if_pos rfl, ← (H.1 rfl).1]
  · by_cases q1 : x = nI 1
    · subst q1
      rw [if_pos (by decide), if_neg q0, ← ((H.2 q0).1 rfl).1]
    · rw [if_neg (fun z => by
        obtain ⟨n, hn, rfl⟩ := nI_i (x := x) (n := 2) z.1 z.2
        rcases (show n = 0 ∨ n = 1 by omega) with rfl | rfl
        · exact q0 rfl
        · exact q1 rfl), ← ((H.2 q0).2 q1).1]
