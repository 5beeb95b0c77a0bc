/-! PHASE 2, BOTH SIDES: said, kinds, deep -/
theorem dpB_c {P Q : Nat → Prop} [DecidablePred P] [DecidablePred Q] : ∀ (n : Nat), (∀ k, k < n → (P k ↔ Q k)) → dpB P n = dpB Q n
  | 0, _ => rfl
  | n + 1, H => by
    show dpB P n ||| _ = dpB Q n ||| _
    rw [dpB_c n (fun k hk => H k (by omega))]
    by_cases q : P n
    · rw [if_pos q, if_pos ((H n (by omega)).mp q)]
    · rw [if_neg q, if_neg (fun z => q ((H n (by omega)).mpr z))]
theorem alB_all {P : Nat → Prop} [DecidablePred P] : ∀ (n : Nat), ¬ alB P n = 0 ↔ ∀ s, s < n → P s
  | 0 => ⟨fun _ s hs => absurd hs (by omega), fun _ => by show ¬ nI 1 = 0; decide⟩
  | n + 1 => by
    have ih := alB_all (P := P) n
    by_cases q : alB P n = 0
    · refine ⟨fun z => absurd (alB_z q).symm z, fun z => ?_⟩
      exact absurd q (ih.mpr (fun s hs => z s (by omega)))
    · by_cases q2 : P n
      · refine ⟨fun _ => al_s (ih.mp q) q2, fun _ => ?_⟩
        rw [← alB_t q q2]; decide
      · refine ⟨fun z => absurd (alB_f q q2).symm z, fun z => absurd (z n (by omega)) q2⟩
theorem hi_e {kd : Nat} (hk : kd < 6) (d a : Int32) : hiC (nI kd) d a = hiA (nI kd) d a := by
  rcases (show kd = 0 ∨ kd = 1 ∨ kd = 2 ∨ kd = 3 ∨ kd = 4 ∨ kd = 5 by omega) with rfl | rfl | rfl | rfl | rfl | rfl
  · rw [hiC_0 (show nI 0 = 0 from by decide), hiA_o (Or.inl (by decide))]
  · rw [hiC_1 (show nI 1 = 1 from by decide)]; unfold hiA; rw [if_pos (show nI 1 = 1 from by decide)]
  · rw [hiC_2 (show nI 2 = 2 from by decide)]; unfold hiA; rw [if_neg (show ¬ nI 2 = 1 from by decide), if_pos (show nI 2 = 2 from by decide)]
  · rw [hiC_3 (show nI 3 = 3 from by decide)]; unfold hiA; rw [if_neg (show ¬ nI 3 = 1 from by decide), if_neg (show ¬ nI 3 = 2 from by decide), if_pos (show nI 3 = 3 from by decide)]
  · rw [hiC_4 (show nI 4 = 4 from by decide)]; unfold hiA; rw [if_neg (show ¬ nI 4 = 1 from by decide), if_neg (show ¬ nI 4 = 2 from by decide), if_neg (show ¬ nI 4 = 3 from by decide), if_pos (show nI 4 = 4 from by decide)]
  · rw [hiC_o (Or.inr (by decide))]; unfold hiA; rw [if_neg (show ¬ nI 5 = 1 from by decide), if_neg (show ¬ nI 5 = 2 from by decide), if_neg (show ¬ nI 5 = 3 from by decide), if_neg (show ¬ nI 5 = 4 from by decide), if_pos (show nI 5 = 5 from by decide)]
theorem i_le {a b : Int32} : (a ≤ b ↔ ¬ b < a) := by
  simp only [Int32.lt_iff_toInt_lt, Int32.le_iff_toInt_le]; omega
theorem de_e {kd : Nat} (hk : kd < 6) (d s : Int32) : deC (nI kd) d s = deA (nI kd) s d := by
  rcases (show kd = 0 ∨ kd = 1 ∨ kd = 2 ∨ kd = 3 ∨ kd = 4 ∨ kd = 5 by omega) with rfl | rfl | rfl | rfl | rfl | rfl
  · rfl
  · rfl
  · rfl
  · show (if nI 1 < s then nI 4 - s + nI 1 else nI 4 - s + nI 1 + nI 3) = (if nI 1 < s then nI 4 - s + nI 1 else nI 4 - s + nI 4)
    split
    · rfl
    · rw [Int32.add_assoc]; rfl
  · rfl
  · show (if d ≤ nI 4 - s then nI 4 - s - d else nI 0) = (if nI 4 - s ≤ d then nI 0 else nI 4 - s - d)
    by_cases q : d ≤ nI 4 - s
    · rw [if_pos q]
      by_cases q2 : nI 4 - s ≤ d
      · rw [if_pos q2]
        have e : nI 4 - s = d := by
          apply Int32.toInt_inj.mp
          rw [Int32.le_iff_toInt_le] at q q2
          omega
        rw [e, Int32.sub_self]; rfl
      · rw [if_neg q2]
    · rw [if_neg q, if_pos (by rw [Int32.le_iff_toInt_le] at q ⊢; omega)]
theorem da_e {kd : Nat} (hk : kd < 6) (d s : Int32) : daC (nI kd) d s = coV (nI kd) s d := by
  unfold daC coV
  rw [de_e hk]
  by_cases q : nI 10 ≤ d + deA (nI kd) s d
  · rw [if_pos q, if_neg]
    rw [Int32.le_iff_toInt_le, nI_i2 (by omega)] at q ⊢
    omega
  · rw [if_neg q, if_pos]
    rw [Int32.le_iff_toInt_le, nI_i2 (by omega)] at q ⊢
    omega
theorem said_e {x m n : Nat} {h h1 : xI} {c : Int32} (hn : n ≤ 5) (H : sE h (x + 1) (m + 1) 0) (hs : h (x + 1) 4 = nI n) (f : ∀ i, h1 (m + 1) i = h (m + 1) i) : dpB (fun kd => fS h x kd c n) 6 = dpB (fun kd => ¬ alS h1 (m + 1) c kd n = 0) 6 := by
  have r : ∀ i, i < 4 * n → h (x + 7) i = h1 (m + 1) (56 + i) := fun i hi => by
    rw [f, H.2.2.2.2.2.1 n hn hs i hi, Nat.zero_add]
  refine dpB_c 6 (fun kd hk => ?_)
  unfold alS
  rw [alB_all]
  refine forall_congr' (fun s => forall_congr' (fun hs => ?_))
  rw [r _ (by omega), r _ (by omega), r _ (by omega), r _ (by omega), hi_e hk, show 56 + s * 4 = 56 + 4 * s by omega, show 56 + (s * 4 + 1) = 56 + 4 * s + 1 by omega, show 56 + (s * 4 + 2) = 56 + 4 * s + 2 by omega, show 56 + (s * 4 + 3) = 56 + 4 * s + 3 by omega]
theorem kinds_e {x m n : Nat} {h h1 : xI} (hn : n ≤ 6) (H : sE h (x + 1) (m + 1) 0) (hs : h (x + 1) 5 = nI n) (f : ∀ i, h1 (m + 1) i = h (m + 1) i) : dpB (fun kd => fK h x kd n) 6 = dpB (fun kd => ¬ alK h1 (m + 1) kd n = 0) 6 := by
  have r : ∀ i, i < 3 * n → h (x + 8) i = h1 (m + 1) (76 + i) := fun i hi => by
    rw [f, H.2.2.2.2.2.2 n hn hs i hi, Nat.zero_add]
  refine dpB_c 6 (fun kd hk => ?_)
  unfold alK
  rw [alB_all]
  refine forall_congr' (fun s => forall_congr' (fun hs => ?_))
  rw [r _ (by omega), r _ (by omega), r _ (by omega), de_e hk, show 76 + s * 3 = 76 + 3 * s by omega, show 76 + (s * 3 + 1) = 76 + 3 * s + 1 by omega, show 76 + (s * 3 + 2) = 76 + 3 * s + 2 by omega]
theorem deep_e {x m c : Nat} {h h1 : xI} {d : Int32} (hc : c < 25) (H : sE h (x + 1) (m + 1) 0) (f : ∀ i, h1 (m + 1) i = h (m + 1) i) : dpB (fun e => daC (h (x + 2) 2) (nI e) (h (x + 3) c) = d) 10 = dpB (fun e => coV (h1 (m + 1) 30) (h1 (m + 1) (31 + c)) (nI e) = d) 10 := by
  obtain ⟨⟨k, hk, e0⟩, e1, e2, -⟩ := H
  have a : h (x + 2) 2 = nI k := e0
  have b : h1 (m + 1) 30 = nI k := by rw [f]; exact (by rw [Nat.zero_add] at e1; exact e1.symm.trans e0)
  have e : h (x + 3) c = h1 (m + 1) (31 + c) := by rw [f]; exact (e2 c hc).trans (by rw [Nat.zero_add])
  refine dpB_c 10 (fun i _ => ?_)
  rw [a, b, e, da_e hk]
/-- both look, and answer alike -/
theorem lk_kk {x m : Nat} {h h1 h2 : xI} {g g1 g2 : xJ} {P : Prop} {a b : Int32} {v1 v2 : Option Value} (e : P → a = b) (H1 : pif P (px (some (.int a)) h g) (px (some (.int (-2 : Int32))) (rcH h x 9) g) v1 h1 g1) (H2 : pif P (px (some (.int b)) h1 g1) (px (some (.int (-2 : Int32))) (rfH h1 m 0) g1) v2 h2 g2) : v1 = v2 := by
  by_cases q : P
  · obtain ⟨rfl, -⟩ := H1.1 q
    obtain ⟨rfl, -⟩ := H2.1 q
    rw [e q]
  · obtain ⟨rfl, -⟩ := H1.2 q
    obtain ⟨rfl, -⟩ := H2.2 q
    rfl
theorem cKp_look {x : Nat} {h h' : xI} {g g' : xJ} {P : Prop} {a : Int32} {v : Option Value} (hI : cOk h x) (H : pif P (px (some (.int a)) h g) (px (some (.int (-2 : Int32))) (rcH h x 9) g) v h' g') : isI v ∧ cKp x h h' ∧ cQ x h h' := by
  by_cases q : P
  · obtain ⟨rfl, rfl, -⟩ := H.1 q; exact ⟨⟨_, rfl⟩, cKp_w hI (wI_r hI), fun _ _ _ => rfl⟩
  · obtain ⟨rfl, rfl, -⟩ := H.2 q; exact ⟨⟨_, rfl⟩, cKp_rc hI (by omega), cQ_rc (by omega)⟩
theorem cKp_kn {x : Nat} {h h' : xI} {g g' : xJ} {a : Int32} {v : Option Value} (hI : cOk h x) (H : px (some (.int a)) h g v h' g') : isI v ∧ cKp x h h' ∧ cQ x h h' := by
  obtain ⟨rfl, rfl, -⟩ := H; exact ⟨⟨_, rfl⟩, cKp_w hI (wI_r hI), fun _ _ _ => rfl⟩
theorem lk_kn {h h1 h2 : xI} {g g1 g2 : xJ} {a b : Int32} {v1 v2 : Option Value} (e : a = b) (H1 : px (some (.int a)) h g v1 h1 g1) (H2 : px (some (.int b)) h1 g1 v2 h2 g2) : v1 = v2 := by
  obtain ⟨rfl, -⟩ := H1
  obtain ⟨rfl, -⟩ := H2
  rw [e]
