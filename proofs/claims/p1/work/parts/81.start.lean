/-! THE LAW, 2: its start -/
def lwSh : Nat → xS := fun p => ([.inl (5, [3, 11, 28, 29, 32, 35, 40, 1, 1, 0, 0, 0]), .inl (2, [4, 7, 9, 10, 0, 0]), .inl (0, [5, 6, 0, 0, 0]), .inr (.inl (0, 25)), .inr (.inl (0, 25)), .inl (1, [8, 0]), .inr (.inl (0, 216)), .inr (.inl (0, 20)), .inr (.inl (0, 18)), .inr (.inr [10, 18]), .inl (2, [13, 16, 18, 19, 0, 0]), .inl (0, [14, 15, 0, 0, 0]), .inr (.inl (0, 25)), .inr (.inl (0, 25)), .inl (1, [17, 0]), .inr (.inl (0, 216)), .inr (.inl (0, 20)), .inr (.inl (0, 18)), .inl (2, [21, 24, 26, 27, 0, 0]), .inl (0, [22, 23, 0, 0, 0]), .inr (.inl (0, 25)), .inr (.inl (0, 25)), .inl (1, [25, 0]), .inr (.inl (0, 216)), .inr (.inl (0, 20)), .inr (.inl (0, 18)), .inr (.inl (1, 2)), .inl (0, [30, 31, 0, 0, 0]), .inr (.inl (0, 25)), .inr (.inl (0, 25)), .inl (4, [33, 34, 0]), .inr (.inl (0, 5)), .inr (.inl (0, 160)), .inl (3, [36, 37, 0, 0, 0, 0, 0]), .inr (.inl (0, 150)), .inl (0, [38, 39, 0, 0, 0]), .inr (.inl (0, 25)), .inr (.inl (0, 25)), .inr (.inl (0, 6)), .inl (6, [42, 43, 44, 45, 1, 1, 46, 47, 48, 49, 50, 0, 0, 0, 0, 0, 51, 52]), .inr (.inl (0, 310)), .inr (.inl (0, 620)), .inr (.inl (1, 2)), .inr (.inl (0, 3)), .inr (.inl (0, 56)), .inr (.inl (0, 5)), .inr (.inl (0, 800)), .inr (.inl (0, 6)), .inr (.inl (0, 150)), .inr (.inl (0, 94)), .inr (.inl (0, 2))] : List xS).getD p (.inr (.inl (0, 0)))
def lwH : xI := fun p => ([fun _ => 0, fun _ => 0, fun _ => 0, fun _ => 0, fun i => if 2 = 2 ∧ 0 ≤ i ∧ i < 0 + 25 then (-1 : Int32) else 0, fun _ => 0, fun _ => 0, fun _ => 0, fun _ => 0, fun _ => 0, fun _ => 0, fun _ => 0, fun _ => 0, fun i => if 2 = 2 ∧ 0 ≤ i ∧ i < 0 + 25 then (-1 : Int32) else 0, fun _ => 0, fun _ => 0, fun _ => 0, fun _ => 0, fun _ => 0, fun _ => 0, fun _ => 0, fun i => if 2 = 2 ∧ 0 ≤ i ∧ i < 0 + 25 then (-1 : Int32) else 0, fun _ => 0, fun _ => 0, fun _ => 0, fun _ => 0, fun _ => 0, fun _ => 0, fun _ => 0, fun i => if 2 = 2 ∧ 0 ≤ i ∧ i < 0 + 25 then (-1 : Int32) else 0, fun _ => 0, fun _ => 0, fun _ => 0, fun _ => 0, fun _ => 0, fun _ => 0, fun _ => 0, fun i => if 2 = 2 ∧ 0 ≤ i ∧ i < 0 + 25 then (-1 : Int32) else 0, fun _ => 0, fun _ => 0, bgH (fun _ _ => 0) 1 0 0 1, fun _ => 0, fun _ => 0, fun _ => 0, fun _ => 0, fun _ => 0, fun _ => 0, fun _ => 0, fun _ => 0, fun _ => 0, fun _ => 0] : List (Nat → Int32)).getD p (fun _ => 0)
def lwG : xJ := fun p => ([fun i => if i = 8 then 1 else 0, fun _ => 0, fun _ => 0, fun _ => 0, fun _ => 0, fun _ => 0, fun _ => 0, fun _ => 0, fun _ => 0, fun _ => 0, fun _ => 0, fun _ => 0, fun _ => 0, fun _ => 0, fun _ => 0, fun _ => 0, fun _ => 0, fun _ => 0, fun _ => 0, fun _ => 0, fun _ => 0, fun _ => 0, fun _ => 0, fun _ => 0, fun _ => 0, fun _ => 0, fun _ => 0, fun _ => 0, fun _ => 0, fun _ => 0, fun _ => 0, fun _ => 0, fun _ => 0, fun _ => 0, fun _ => 0, fun _ => 0, fun _ => 0, fun _ => 0, fun _ => 0, fun i => if i = 5 then 1 else 0, fun _ => 0, fun _ => 0, fun _ => 0, fun _ => 0, fun _ => 0, fun _ => 0, fun _ => 0, fun _ => 0, fun _ => 0, fun _ => 0, fun _ => 0] : List (Nat → Int64)).getD p (fun _ => 0)
def lwE (ad aK aV : Nat → Nat) (zr : Value) (U : State) : Prop := nE U ∧ vk_S 5 sLen sByt aK aV (fun q => ∃ i, i < 51 ∧ q = ad i) U U.heap ∧ (∀ i, i < 5 → vk_R RX5 (sPl.getD i 0) (sTx.getD i "") (aK i) U) ∧ va_Z "java/lang/String" "COMPACT_STRINGS" "Z" (.int 1) (fun q => ∃ i, i < 51 ∧ q = ad i) U U.heap ∧ va_Z "jdk/internal/util/Preconditions" "SIOOBE_FORMATTER" "Ljava/util/function/BiFunction;" zr (fun q => ∃ i, i < 51 ∧ q = ad i) U U.heap
def lwW (D : va_G) (ay : Nat → ClassId) (ad aK aV : Nat → Nat) (zr : Value) : Kw := (D, ay, lwSh, 51, ad, lwE ad aK aV zr)
theorem lwW_ok {D : va_G} {ay : Nat → ClassId} {ad aK aV : Nat → Nat} {zr : Value} (hij : wIj (lwW D ay ad aK aV zr)) : wOk (lwW D ay ad aK aV zr) := by
  refine ⟨hij, fun s U h1 hz hk hW => ?_, fun U g mk a h1 => ?_, fun U h1 => h1.1.1⟩
  · obtain ⟨a1, a2, a3, a4, a5⟩ := h1
    exact ⟨nE_warm hW a1, (a2.kept hk).moved hW.alike, fun i hi => vk_R.warm hW (a3 i hi), (a4.kept hk).moved hW.alike, (a5.kept hk).moved hW.alike⟩
  · obtain ⟨a1, a2, a3, a4, a5⟩ := h1
    exact ⟨nE_same (U := U) (V := U.calling g mk a) rfl a1, vk_S.moved (u := U) (U := U.calling g mk a) (Vm.Alike.refl U.vm) a2, fun i hi => vk_R.same (u := U) (U := U.calling g mk a) rfl (a3 i hi), va_Z.moved (u := U) (U := U.calling g mk a) (Vm.Alike.refl U.vm) a4, va_Z.moved (u := U) (U := U.calling g mk a) (Vm.Alike.refl U.vm) a5⟩
theorem lwW_s {D : va_G} {ay : Nat → ClassId} {ad aK aV : Nat → Nat} {zr : Value} : sOk (lwW D ay ad aK aV zr) aK aV zr := fun _ h => ⟨h.2.1, h.2.2.1, h.2.2.2.1, h.2.2.2.2⟩
theorem lw_shC {D : va_G} {ay : Nat → ClassId} {ad aK aV : Nat → Nat} {zr : Value} : shC (lwW D ay ad aK aV zr) 0 := by
  refine ⟨Nat.le_of_ble_eq_true rfl, rfl, ⟨Nat.le_of_ble_eq_true rfl, rfl, ⟨Nat.le_of_ble_eq_true rfl, rfl, rfl, rfl⟩, ⟨Nat.le_of_ble_eq_true rfl, rfl, rfl⟩, rfl, rfl⟩, rfl, ⟨Nat.le_of_ble_eq_true rfl, rfl, ⟨Nat.le_of_ble_eq_true rfl, rfl, rfl, rfl⟩, ⟨Nat.le_of_ble_eq_true rfl, rfl, rfl⟩, rfl, rfl⟩, ⟨Nat.le_of_ble_eq_true rfl, rfl, ⟨Nat.le_of_ble_eq_true rfl, rfl, rfl, rfl⟩, ⟨Nat.le_of_ble_eq_true rfl, rfl, rfl⟩, rfl, rfl⟩, rfl, ⟨Nat.le_of_ble_eq_true rfl, rfl, rfl, rfl⟩, ⟨Nat.le_of_ble_eq_true rfl, rfl, rfl, rfl⟩, ⟨Nat.le_of_ble_eq_true rfl, rfl, rfl, ⟨Nat.le_of_ble_eq_true rfl, rfl, rfl, rfl⟩⟩, rfl⟩
theorem lw_shM {D : va_G} {ay : Nat → ClassId} {ad aK aV : Nat → Nat} {zr : Value} : shM (lwW D ay ad aK aV zr) 39 := by
  refine ⟨Nat.le_of_ble_eq_true rfl, rfl, rfl, rfl, rfl, rfl, rfl, rfl, rfl, rfl, rfl, rfl, rfl⟩
theorem lw_tOk {t : Nat} (h0 : lwH (t + 1) = fun _ => 0) (h1 : lwH (t + 4) = fun _ => 0) (h2 : lwH (t + 4 + 1) = fun _ => 0) (h3 : lwH t = fun _ => 0) : tOk lwH t := by
  refine ⟨⟨0, by omega, by rw [h0]; rfl⟩, ⟨⟨0, by omega, by rw [h1]; rfl⟩, fun r _ => ⟨0, by omega, by rw [h2]; rfl⟩⟩, ⟨0, by omega, by rw [h3]; rfl⟩, ⟨0, by omega, by rw [h3]; rfl⟩⟩
theorem lwH_40 (i : Nat) : lwH 40 i = bgH (fun _ _ => 0) 1 0 0 1 i := rfl
theorem lw_J0 : J 0 39 lwH := by
  refine ⟨⟨lw_tOk rfl rfl rfl rfl, lw_tOk rfl rfl rfl rfl, lw_tOk rfl rfl rfl rfl, ⟨0, by omega, rfl⟩, ⟨0, by omega, rfl⟩⟩, ⟨⟨⟨0, by omega, ?_⟩, ⟨0, by omega, ?_⟩, fun r _ => ⟨0, by omega, ?_⟩⟩, ⟨⟨0, by omega, ?_⟩, ⟨0, by omega, ?_⟩⟩, fun i _ => ⟨⟨⟨0, by omega, rfl⟩, ⟨0, by omega, rfl⟩, fun r _ => ⟨0, by omega, rfl⟩⟩, ⟨0, by omega, rfl⟩, ⟨0, by omega, rfl⟩⟩, ⟨0, by omega, rfl⟩⟩, rfl, fun i => rfl⟩
  · rw [lwH_40]; exact bgH_0 _ _ _ _ (by omega)
  · rw [lwH_40]; exact bgH_28 _ _ _ _
  · rw [lwH_40]; exact bgH_ne _ _ _ _ (Or.inr (by omega))
  · rw [lwH_40]; exact bgH_0 _ _ _ _ (by omega)
  · rw [lwH_40]; exact bgH_0 _ _ _ _ (by omega)
theorem lw_K0 : K2 0 39 lwH := by
  have e40 : ∀ i, i < 94 → lwH 40 (0 + i) = nI 0 := fun i hi => by
    rw [Nat.zero_add, lwH_40]
    unfold bgH
    by_cases q : i = 28
    · subst q; rw [u2_s]; rfl
    · rw [u2_ne _ _ _ _ (by omega)]
      by_cases q2 : i = 30
      · subst q2; rw [u2_s]; rfl
      · rw [u2_ne _ _ _ _ (by omega)]
        unfold mp; rw [if_pos (by omega)]; rfl
  refine ⟨fun i _ => rfl, sE_0 (k := 0) (by omega) rfl (e40 _ (by omega)) (fun c hc => ?_) rfl (e40 _ (by omega)) rfl (e40 _ (by omega)), sE_0 (k := 0) (by omega) rfl rfl (fun c _ => rfl) rfl rfl rfl rfl, sE_0 (k := 0) (by omega) rfl rfl (fun c _ => rfl) rfl rfl rfl rfl⟩
  rw [e40 _ (by omega)]; rfl
theorem lw_J2 : J2 0 39 lwH := ⟨lw_J0, lw_K0⟩
theorem lw_e40 : ∀ i, i < 94 → lwH 40 i = nI 0 := fun i hi => by
  rw [lwH_40]
  unfold bgH
  by_cases q : i = 28
  · subst q; rw [u2_s]; rfl
  · rw [u2_ne _ _ _ _ (by omega)]
    by_cases q2 : i = 30
    · subst q2; rw [u2_s]; rfl
    · rw [u2_ne _ _ _ _ (by omega)]
      unfold mp; rw [if_pos (by omega)]; rfl
theorem lw_CF : cFr 0 lwH := ⟨lw_J0.1, fun c hc => if_pos ⟨rfl, by omega, by omega⟩, fun c _ => rfl, rfl, rfl, rfl, rfl, rfl, rfl, rfl, rfl, rfl, rfl⟩
theorem lw_MF : mFr 39 lwH := ⟨lw_e40, rfl, fun i _ => rfl⟩
theorem lw_GF : lwG 0 7 = lwG 39 4 ∧ lwG 0 8 = lwG 39 5 := ⟨rfl, rfl⟩
def lw_tm (i : Nat) : Term := .string "HarrowSaid$Text" (sPl.getD i 0)
def lw_fl : List Cond := flatC (Jvm.Cond.and given_1 narrow_1)
set_option maxRecDepth 100000
theorem lw_m1 : ∀ i, i < 5 → (Cond.exactly (lw_tm i) "java/lang/String") ∈ lw_fl := by decide +kernel
theorem lw_m2 : ∀ i, i < 5 → (Cond.eq (.field (lw_tm i) "java/lang/String" "coder" "B") (.int 0)) ∈ lw_fl := by decide +kernel
theorem lw_m3 : ∀ i, i < 5 → (Cond.arrayOf (.field (lw_tm i) "java/lang/String" "value" "[B") .byte) ∈ lw_fl := by decide +kernel
theorem lw_m4 : ∀ i, i < 5 → (Cond.eq (.length (.field (lw_tm i) "java/lang/String" "value" "[B")) (.int (Int32.ofNat (sLen.getD i 0)))) ∈ lw_fl := by decide +kernel
theorem lw_m5 : ∀ i, i < 5 → ∀ j, j < sLen.getD i 0 → (Cond.eq (.elem (.field (lw_tm i) "java/lang/String" "value" "[B") (.int (Int32.ofNat j))) (.int ((sByt.getD i []).getD j 0))) ∈ lw_fl := by decide +kernel
theorem lw_m6 : ∀ i, i < 5 → ∀ j, j < 5 → i ≠ j → ((Cond.not (Cond.eq (lw_tm i) (lw_tm j))) ∈ lw_fl ∨ (Cond.not (Cond.eq (lw_tm j) (lw_tm i))) ∈ lw_fl) := by decide +kernel
theorem lw_m7 : ∀ i, i < 5 → (Cond.stringRef RX5 (sPl.getD i 0) (sTx.getD i "")) ∈ lw_tbl := by decide +kernel
theorem lw_m8 : (Cond.eq (.static "java/lang/String" "COMPACT_STRINGS" "Z") (.int 1)) ∈ lw_fl ∧ (Cond.isRef (.static "jdk/internal/util/Preconditions" "SIOOBE_FORMATTER" "Ljava/util/function/BiFunction;")) ∈ lw_fl := by decide +kernel
theorem lw_m9 : Cond.laysStatic "java/lang/String" "COMPACT_STRINGS" "Z" ∈ lw_tbl ∧ Cond.laysStatic "jdk/internal/util/Preconditions" "SIOOBE_FORMATTER" "Ljava/util/function/BiFunction;" ∈ lw_tbl ∧ Cond.initialized "java/lang/String" ∈ lw_tbl ∧ Cond.initialized "jdk/internal/util/Preconditions" ∈ lw_tbl := by decide +kernel
theorem lw_m10 : Cond.arrayClass .int ∈ lw_tbl ∧ Cond.arrayClass .boolean ∈ lw_tbl ∧ Cond.arrayOver (.object "HarrowSaid$State") ∈ lw_tbl := by decide +kernel
theorem lw_nE {args : Array Value} {s : State} (hts : ∀ w ∈ lw_tbl, w.before args s = true) : nE s := by
  refine ⟨fun x hx => ?_, va_AO.of (hts _ lw_m10.2.2)⟩
  obtain ⟨a, i, y, b, rfl⟩ := nW_form hx
  exact va_Nw.of rfl (hts _ (List.mem_filter.mp hx).1)
theorem lw_str {args : Array Value} {s : State} (hts : ∀ w ∈ lw_tbl, w.before args s = true) (hgv : (Jvm.Cond.and given_1 narrow_1).before args s = true) : ∃ (aK aV : Nat → Nat) (zr : Value), (zr = .null ∨ ∃ ra, zr = .ref ra) ∧ ∀ A : Nat → Prop, (∀ a, A a → s.heap.size ≤ a) → vk_S 5 sLen sByt aK aV A s s.heap ∧ (∀ i, i < 5 → vk_R RX5 (sPl.getD i 0) (sTx.getD i "") (aK i) s) ∧ va_Z "java/lang/String" "COMPACT_STRINGS" "Z" (.int 1) A s s.heap ∧ va_Z "jdk/internal/util/Preconditions" "SIOOBE_FORMATTER" "Ljava/util/function/BiFunction;" zr A s s.heap := by
  have hs : ∀ c ∈ lw_fl, c.before args s = true := flat_of_before _ hgv
  have hA : ∀ a : Nat, a < s.heap.size → ¬ (fun q => s.heap.size ≤ q) a := fun a h1 h2 => by have : s.heap.size ≤ a := h2; omega
  obtain ⟨aK, aV, h1, h2⟩ := vk_Sof (args := args) (s := s) (N := 5) (tm := lw_tm) (len := sLen) (byt := sByt) (A := fun q => s.heap.size ≤ q) (by decide) (fun i hi => hs _ (lw_m1 i hi)) (fun i hi => hs _ (lw_m2 i hi)) (fun i hi => hs _ (lw_m3 i hi)) (fun i hi => hs _ (lw_m4 i hi)) (fun i hi j hj => hs _ (lw_m5 i hi j hj)) (fun i j hi hj hn => by
    rcases lw_m6 i hi j hj hn with z | z
    · exact Or.inl (hs _ z)
    · exact Or.inr (hs _ z)) hA
  have h3 : ∀ i, i < 5 → vk_R RX5 (sPl.getD i 0) (sTx.getD i "") (aK i) s := fun i hi => vk_R.of (hts _ (lw_m7 i hi)) (h2 i hi)
  have h4 : va_Z "java/lang/String" "COMPACT_STRINGS" "Z" (.int 1) (fun q => s.heap.size ≤ q) s s.heap := va_Zof (hts _ lw_m9.1) (hts _ lw_m9.2.2.1) (va_eqi (hs _ lw_m8.1)) hA
  have h5 := va_Zqof (hts _ lw_m9.2.1) (hts _ lw_m9.2.2.2) (hs _ lw_m8.2) hA
  rcases h5 with h5 | ⟨t, h5⟩
  · exact ⟨aK, aV, .null, Or.inl rfl, fun A hAA => ⟨h1.narrow hAA, h3, h4.narrow hAA, h5.narrow hAA⟩⟩
  · exact ⟨aK, aV, .ref t, Or.inr ⟨t, rfl⟩, fun A hAA => ⟨h1.narrow hAA, h3, h4.narrow hAA, h5.narrow hAA⟩⟩
theorem lw_known {args : Array Value} {s : State} (hts0 : ∀ w ∈ lw_tbl, w.before args s = true) : ∃ (D : va_G) (ay : Nat → ClassId), va_K D vwCl (tyl ay) s := by
  have hts : ∀ w ∈ gW, w.before args s = true := fun w h => hts0 w (gw_in h)
  obtain ⟨c0, i0, k0⟩ := u_known (C := RX1) (T := TX1) (N := 5) (n := 5) hts inX1 (hts _ (gw_1 33 rfl rfl))
  obtain ⟨c1, i1, k1⟩ := u_known (C := RX2) (T := TX2) (N := 2) (n := 2) hts inX2 (hts _ (gw_1 68 rfl rfl))
  obtain ⟨c2, i2, k2⟩ := u_known (C := RX4) (T := TX4) (N := 6) (n := 6) hts inX4 (hts _ (gw_1 27 rfl rfl))
  obtain ⟨c3, i3, k3⟩ := u_known (C := RX5) (T := TX5) (N := 7) (n := 7) hts inX5 (hts _ (gw_1 128 rfl rfl))
  obtain ⟨c4, i4, k4⟩ := u_known (C := RX6) (T := TX6) (N := 3) (n := 3) hts inX6 (hts _ (gw_1 111 rfl rfl))
  obtain ⟨c5, i5, k5⟩ := u_known (C := RX7) (T := TX7) (N := 12) (n := 12) hts inX7 (hts _ (gw_1 19 rfl rfl))
  obtain ⟨c6, i6, k6⟩ := u_known (C := RX8) (T := TX8) (N := 18) (n := 18) hts inX8 (hts _ (gw_3 206 rfl rfl))
  obtain ⟨a0, e0, p0, f0, g0, h0⟩ := Cond.arrayClass_spec (hts0 _ lw_m10.1)
  obtain ⟨a1, e1, p1, f1, g1, h1⟩ := Cond.arrayClass_spec (hts0 _ lw_m10.2.1)
  obtain ⟨p2, a2, e2, f2, -, g2, h2, r2⟩ := Cond.arrayOver_spec (hts0 _ lw_m10.2.2)
  refine ⟨(fun k => [c0, c1, c2, c3, c4, c5, c6].getD k c0, fun k => [i0, i1, i2, i3, i4, i5, i6].getD k i0), fun k => [a0, a1, a2].getD k a0, fun k q hq => ?_, fun k q hq => ?_⟩
  · match k, hq with
    | 0, hq => cases hq; exact k0
    | 1, hq => cases hq; exact k1
    | 2, hq => cases hq; exact k2
    | 3, hq => cases hq; exact k3
    | 4, hq => cases hq; exact k4
    | 5, hq => cases hq; exact k5
    | 6, hq => cases hq; exact k6
    | k + 7, hq => simp [vwCl] at hq
  · match k, hq with
    | 0, hq => cases hq; exact ⟨fun n z => ⟨fun k h => (by cases h), e0, g0, p0, h0⟩, f0⟩
    | 1, hq => cases hq; exact ⟨fun n z => ⟨fun k h => (by cases h), e1, g1, p1, h1⟩, f1⟩
    | 2, hq => cases hq; exact ⟨fun n z => ⟨fun k h => (by cases h), e2, g2, p2, h2⟩, e2, p2, g2, h2, f2, r2⟩
    | k + 3, hq => simp [tyl] at hq
/-! THE CLAIM OUT OF ONE WALK OF THE LAW'S BODY. Your part is whole_start (and what it stands on); all else here is the same for every law, but numbers. -/
def R_law : String := "HarrowSaidLaw"
def lw_P (b : Addr) (xs : List Int32) (args : Array Value) (s : State) : Prop := args = #[.ref b] ∧ s.IntsAt b xs ∧ xs.length ≤ 5 ∧ (Jvm.Cond.and given_1 narrow_1).before args s = true
def lw_Q (_ : Array Value) (s : State) (o : Outcome) (t : State) : Prop := o = .returned (some (.int 1)) ∧ Framed s o t [] 600000 7302250
def lw_Z (below : List Frame) (a : Array Value) (s : State) : State → Prop := fun t => ∃ o, t.status = .running ∧ Ended t below o ∧ lw_Q a s o t
/-- the law's own end, with 1 on the stack, nothing written that was there before, its room as the claim has it -/
theorem lw_ret {p : Program} {l : Launch} {e : Env} {s : State} {m : MethodId} {below : List Frame} {meth : Method} {c : Code} {b : Nat} (hx : p.tables.exec = Jvm.exec) (hb : c.code = code) (hr : meth.sig.returnType = ret) (hlocks : meth.locks = false) {pc : Nat} {H : Heap} {ls : Array Slot} (hdg : decode code pc = .ok (.ireturn, 1)) : W p l e room_1 s m #[Value.ref b] below meth c H [] 600000 7302250 (lw_Z below #[Value.ref b] s) (F0 m pc ls [.int 1]) := by
  intro T hT X
  obtain ⟨fs, hret, hrun, hended, hW, hframe⟩ := X.leave (v := some (.int 1)) (hlocks := hlocks) (fun h => by rw [hr] at h; cases h)
  have hmeth' : T.vm.method? m = some meth := X.method'
  refine ⟨T.setFrames fs, ?_, .returned (some (.int 1)), hrun, hended, rfl, ⟨_, rfl⟩, hW, hframe⟩
  jvm_step X.here [X.here.top, hx, hb, hdg, hmeth', hr, ret, narrow_b1]
  (try refine ⟨rfl, ?_⟩); (try refine ⟨rfl, ?_⟩)
  first | (intro acts; rw [hret _ acts rfl rfl rfl]) | rw [hret _ _ rfl rfl rfl]
  exact Steps.refl _
/-- what holds at the law's entry: the machine, the code, the tables' words (any of lw_tbl by 'hts w (by decide +kernel)'), the script of L ints xs at the cell b, what the Statement gives of the start (any of its parts by flat_of_before) -/
def lw_At (p : Program) (s : State) (m : MethodId) (meth : Method) (c : Code) (b L : Nat) (xs : Nat → Int32) : Prop :=
  p.tables.exec = Jvm.exec ∧ c.code = code ∧ meth.sig.returnType = ret ∧ c.maxLocals = 4 ∧ s.vm.findClass R_law = some m.cls ∧ (∀ w ∈ lw_tbl, w.before #[Value.ref b] s = true) ∧ va_X b L xs s s.heap ∧ b < s.heap.size ∧ meth.locks = false ∧ (Jvm.Cond.and given_1 narrow_1).before #[Value.ref b] s = true
set_option maxHeartbeats 40000000 in
set_option maxRecDepth 100000 in
theorem whole_start {p : Program} {e : Env} {s : State} {m : MethodId} {below : List Frame} {meth : Method} {c : Code} (l : Launch) {b L : Nat} {xs : Nat → Int32} (hL : L ≤ 5) (C0 : lw_At p s m meth c b L xs) : W p l e room_1 s m #[Value.ref b] below meth c s.heap [] 0 0 (lw_Z below #[Value.ref b] s) (entryFrame m ([Value.ref b] : List Value).toArray 4) := by
  obtain ⟨hx, hb, hr, hml, hown, hts, hX, hbl, hlocks, hgv⟩ := id C0
  have htg : ∀ x ∈ gW, x.before #[Value.ref b] s = true := fun x h => hts x (gw_in h)
  obtain ⟨D, ay, hK⟩ := lw_known hts
  have hE := lw_nE hts
  obtain ⟨aK, aV, zr, hz, hstr⟩ := lw_str hts hgv
  obtain ⟨A, hAe⟩ : ∃ A : Nat → Prop, A = fun q => s.heap.size ≤ q := ⟨_, rfl⟩
  have hA : ∀ q : Nat, s.heap.size ≤ q → A q := fun q h => by rw [hAe]; exact h
  have hbA : ¬ A b := by rw [hAe]; exact Nat.not_le.mpr hbl
  have hS : va_S A s.heap s.heap [] := va_S.rf
  have hP : va_P D vwCl [] s.heap := fun k q h => by simp at h
  have hD : va_D A [] := ⟨fun i j p q h => by simp at h, fun k q h => by simp at h⟩
  have hl := lv_entry ([.ref b]) (n := 4) (Nat.le_of_ble_eq_true rfl)
  rw [lg_entry_eq]
  generalize (lg_sl ([.ref b]) ++ List.replicate (4 - (lg_sl ([.ref b])).length) Slot.unset).toArray = ls at hl ⊢
  have hl : lv_has ls 4 [(0, .ref b)] := hl
  refine va_new (ci := 5) (fs := [.null, .null, .null, .null, .null, .null, .null, .long 0, .long 0, .int 0, .int 0, .int 0]) (C := RX7) (T := TX7) (N := 12) hx hb htg inX7 tyX7 tyX7_ok hown (htg _ (gw_1 18 rfl rfl)) (htg _ (gw_1 19 rfl rfl)) (htg _ (gw_1 1 rfl rfl)) hK hP hD hS hA rfl (fun j hj => by rcases (show j = 0 ∨ j = 1 ∨ j = 2 ∨ j = 3 ∨ j = 4 ∨ j = 5 ∨ j = 6 ∨ j = 7 ∨ j = 8 ∨ j = 9 ∨ j = 10 ∨ j = 11 by omega) with rfl | rfl | rfl | rfl | rfl | rfl | rfl | rfl | rfl | rfl | rfl | rfl <;> rfl) (Nat.le_of_ble_eq_true rfl) (Nat.le_of_ble_eq_true rfl) (dtL_0 (0, .new 7, 3) (mg 0 rfl)) (fun qx H hP hD hS => ?_)
  have hP : va_P D vwCl [(qx, .inr (5, [.null, .null, .null, .null, .null, .null, .null, .long 0, .long 0, .int 0, .int 0, .int 0]))] H := hP
  have hD : va_D A [(qx, .inr (5, [.null, .null, .null, .null, .null, .null, .null, .long 0, .long 0, .int 0, .int 0, .int 0]))] := hD
  refine W.widen (k := 1) (n := 12) (by omega) (by omega) ?_
  refine lv_dup hx hb (dtL_0 (3, .dup, 1) (mg 1 rfl)) rfl ?_
  have hPc := hP.sub (ws' := [(qx, .inr (5, [.null, .null, .null, .null, .null, .null, .null, .long 0, .long 0, .int 0, .int 0, .int 0]))]) [0] rfl
  refine i_go (wc := [(qx, .inr (5, [.null, .null, .null, .null, .null, .null, .null, .long 0, .long 0, .int 0, .int 0, .int 0]))]) (wr := []) (va_runI (Ts := gW) (own := R_law) (cc := code) (nL := 4) (n := 0) (bytes := cX7_init) (maxL := 2) (As := []) (rest := [.ref qx]) (index := 9) ⟨hx, hb, hml, hown, htg⟩ (ci_X7 l D ay qx H.size) ⟨callB_of 0 htg (gL (gw_1 22 rfl rfl)) rfl rfl rfl (htg _ (gw_1 1 rfl rfl)) (htg _ (gw_1 20 rfl rfl)) ⟨by decide, by decide, by decide +kernel⟩ ⟨Nat.le_of_ble_eq_true rfl, Nat.le_of_ble_eq_true rfl⟩, rfl, htg _ (gw_1 21 rfl rfl)⟩ ⟨fun a U g mk q => by obtain ⟨q0, q1, qP, qK, qE⟩ := q; exact ⟨q0, q1, qP, va_K.moved (u := U) (U := U.calling g mk a) (Vm.Alike.refl U.vm) qK, nE_same (U := U) (V := U.calling g mk a) rfl qE⟩, fun U hU hW => ⟨rfl, by rw [hU], by rw [hU]; exact hPc, va_K.moved hW.alike hK, nE_warm hW hE⟩⟩ rfl rfl hl.1 rfl (lv_room (Nat.le_of_ble_eq_true rfl)) (dtL_0 (4, .invokespecial 9, 3) (mg 2 rfl)) ⟨Nat.le_of_ble_eq_true rfl, Nat.le_of_ble_eq_true rfl⟩) hP hD hS hA [0] [] rfl rfl (by decide) (by decide) (fun ws1 H locs hB hP hD hS => ?_)
  obtain ⟨b1_x, b1_2_x, a1_2_2_x, a2_2_2_x, b3_2_x, a1_4_2_x, a5_2_x, a6_2_x, a3_x, b4_x, b1_5_x, a1_2_5_x, a2_2_5_x, b3_5_x, a1_4_5_x, a5_5_x, a6_5_x, b6_x, b1_7_x, a1_2_7_x, a2_2_7_x, b3_7_x, a1_4_7_x, a5_7_x, a6_7_x, a8_x, b9_x, a1_10_x, a2_10_x, b11_x, a1_12_x, a2_12_x, b13_x, a1_14_x, b2_14_x, a1_3_14_x, a2_3_14_x, a15_x, rfl⟩ := hB
  have hP : va_P D vwCl [(qx, .inr (5, [.ref b1_x, .ref a3_x, .ref a8_x, .ref b9_x, .ref b11_x, .ref b13_x, .ref a15_x, .long 0, .long 1, .int 0, .int 0, .int 0])), (b1_x, .inr (2, [.ref b1_2_x, .ref b3_2_x, .ref a5_2_x, .ref a6_2_x, .int 0, .int 0])), (b1_2_x, .inr (0, [.ref a1_2_2_x, .ref a2_2_2_x, .int 0, .int 0, .int 0])), (a1_2_2_x, .inl (ay 0, 25, .inl (fun _ => 0))), (a2_2_2_x, .inl (ay 0, 25, .inl (fun i => if 2 = 2 ∧ 0 ≤ i ∧ i < 0 + 25 then (-1 : Int32) else 0))), (b3_2_x, .inr (1, [.ref a1_4_2_x, .int 0])), (a1_4_2_x, .inl (ay 0, 216, .inl (fun _ => 0))), (a5_2_x, .inl (ay 0, 20, .inl (fun _ => 0))), (a6_2_x, .inl (ay 0, 18, .inl (fun _ => 0))), (a3_x, .inl (ay 2, 2, .inr (.inr (.inr (.inr (va_up (va_up (fun _ => none) (0 : Int32).toNatClampNeg (some b4_x)) (1 : Int32).toNatClampNeg (some b6_x))))))), (b4_x, .inr (2, [.ref b1_5_x, .ref b3_5_x, .ref a5_5_x, .ref a6_5_x, .int 0, .int 0])), (b1_5_x, .inr (0, [.ref a1_2_5_x, .ref a2_2_5_x, .int 0, .int 0, .int 0])), (a1_2_5_x, .inl (ay 0, 25, .inl (fun _ => 0))), (a2_2_5_x, .inl (ay 0, 25, .inl (fun i => if 2 = 2 ∧ 0 ≤ i ∧ i < 0 + 25 then (-1 : Int32) else 0))), (b3_5_x, .inr (1, [.ref a1_4_5_x, .int 0])), (a1_4_5_x, .inl (ay 0, 216, .inl (fun _ => 0))), (a5_5_x, .inl (ay 0, 20, .inl (fun _ => 0))), (a6_5_x, .inl (ay 0, 18, .inl (fun _ => 0))), (b6_x, .inr (2, [.ref b1_7_x, .ref b3_7_x, .ref a5_7_x, .ref a6_7_x, .int 0, .int 0])), (b1_7_x, .inr (0, [.ref a1_2_7_x, .ref a2_2_7_x, .int 0, .int 0, .int 0])), (a1_2_7_x, .inl (ay 0, 25, .inl (fun _ => 0))), (a2_2_7_x, .inl (ay 0, 25, .inl (fun i => if 2 = 2 ∧ 0 ≤ i ∧ i < 0 + 25 then (-1 : Int32) else 0))), (b3_7_x, .inr (1, [.ref a1_4_7_x, .int 0])), (a1_4_7_x, .inl (ay 0, 216, .inl (fun _ => 0))), (a5_7_x, .inl (ay 0, 20, .inl (fun _ => 0))), (a6_7_x, .inl (ay 0, 18, .inl (fun _ => 0))), (a8_x, .inl (ay 1, 2, .inl (fun _ => 0))), (b9_x, .inr (0, [.ref a1_10_x, .ref a2_10_x, .int 0, .int 0, .int 0])), (a1_10_x, .inl (ay 0, 25, .inl (fun _ => 0))), (a2_10_x, .inl (ay 0, 25, .inl (fun i => if 2 = 2 ∧ 0 ≤ i ∧ i < 0 + 25 then (-1 : Int32) else 0))), (b11_x, .inr (4, [.ref a1_12_x, .ref a2_12_x, .int 0])), (a1_12_x, .inl (ay 0, 5, .inl (fun _ => 0))), (a2_12_x, .inl (ay 0, 160, .inl (fun _ => 0))), (b13_x, .inr (3, [.ref a1_14_x, .ref b2_14_x, .int 0, .int 0, .int 0, .int 0, .int 0])), (a1_14_x, .inl (ay 0, 150, .inl (fun _ => 0))), (b2_14_x, .inr (0, [.ref a1_3_14_x, .ref a2_3_14_x, .int 0, .int 0, .int 0])), (a1_3_14_x, .inl (ay 0, 25, .inl (fun _ => 0))), (a2_3_14_x, .inl (ay 0, 25, .inl (fun i => if 2 = 2 ∧ 0 ≤ i ∧ i < 0 + 25 then (-1 : Int32) else 0))), (a15_x, .inl (ay 0, 6, .inl (fun _ => 0)))] H := hP
  have hD : va_D A [(qx, .inr (5, [.ref b1_x, .ref a3_x, .ref a8_x, .ref b9_x, .ref b11_x, .ref b13_x, .ref a15_x, .long 0, .long 1, .int 0, .int 0, .int 0])), (b1_x, .inr (2, [.ref b1_2_x, .ref b3_2_x, .ref a5_2_x, .ref a6_2_x, .int 0, .int 0])), (b1_2_x, .inr (0, [.ref a1_2_2_x, .ref a2_2_2_x, .int 0, .int 0, .int 0])), (a1_2_2_x, .inl (ay 0, 25, .inl (fun _ => 0))), (a2_2_2_x, .inl (ay 0, 25, .inl (fun i => if 2 = 2 ∧ 0 ≤ i ∧ i < 0 + 25 then (-1 : Int32) else 0))), (b3_2_x, .inr (1, [.ref a1_4_2_x, .int 0])), (a1_4_2_x, .inl (ay 0, 216, .inl (fun _ => 0))), (a5_2_x, .inl (ay 0, 20, .inl (fun _ => 0))), (a6_2_x, .inl (ay 0, 18, .inl (fun _ => 0))), (a3_x, .inl (ay 2, 2, .inr (.inr (.inr (.inr (va_up (va_up (fun _ => none) (0 : Int32).toNatClampNeg (some b4_x)) (1 : Int32).toNatClampNeg (some b6_x))))))), (b4_x, .inr (2, [.ref b1_5_x, .ref b3_5_x, .ref a5_5_x, .ref a6_5_x, .int 0, .int 0])), (b1_5_x, .inr (0, [.ref a1_2_5_x, .ref a2_2_5_x, .int 0, .int 0, .int 0])), (a1_2_5_x, .inl (ay 0, 25, .inl (fun _ => 0))), (a2_2_5_x, .inl (ay 0, 25, .inl (fun i => if 2 = 2 ∧ 0 ≤ i ∧ i < 0 + 25 then (-1 : Int32) else 0))), (b3_5_x, .inr (1, [.ref a1_4_5_x, .int 0])), (a1_4_5_x, .inl (ay 0, 216, .inl (fun _ => 0))), (a5_5_x, .inl (ay 0, 20, .inl (fun _ => 0))), (a6_5_x, .inl (ay 0, 18, .inl (fun _ => 0))), (b6_x, .inr (2, [.ref b1_7_x, .ref b3_7_x, .ref a5_7_x, .ref a6_7_x, .int 0, .int 0])), (b1_7_x, .inr (0, [.ref a1_2_7_x, .ref a2_2_7_x, .int 0, .int 0, .int 0])), (a1_2_7_x, .inl (ay 0, 25, .inl (fun _ => 0))), (a2_2_7_x, .inl (ay 0, 25, .inl (fun i => if 2 = 2 ∧ 0 ≤ i ∧ i < 0 + 25 then (-1 : Int32) else 0))), (b3_7_x, .inr (1, [.ref a1_4_7_x, .int 0])), (a1_4_7_x, .inl (ay 0, 216, .inl (fun _ => 0))), (a5_7_x, .inl (ay 0, 20, .inl (fun _ => 0))), (a6_7_x, .inl (ay 0, 18, .inl (fun _ => 0))), (a8_x, .inl (ay 1, 2, .inl (fun _ => 0))), (b9_x, .inr (0, [.ref a1_10_x, .ref a2_10_x, .int 0, .int 0, .int 0])), (a1_10_x, .inl (ay 0, 25, .inl (fun _ => 0))), (a2_10_x, .inl (ay 0, 25, .inl (fun i => if 2 = 2 ∧ 0 ≤ i ∧ i < 0 + 25 then (-1 : Int32) else 0))), (b11_x, .inr (4, [.ref a1_12_x, .ref a2_12_x, .int 0])), (a1_12_x, .inl (ay 0, 5, .inl (fun _ => 0))), (a2_12_x, .inl (ay 0, 160, .inl (fun _ => 0))), (b13_x, .inr (3, [.ref a1_14_x, .ref b2_14_x, .int 0, .int 0, .int 0, .int 0, .int 0])), (a1_14_x, .inl (ay 0, 150, .inl (fun _ => 0))), (b2_14_x, .inr (0, [.ref a1_3_14_x, .ref a2_3_14_x, .int 0, .int 0, .int 0])), (a1_3_14_x, .inl (ay 0, 25, .inl (fun _ => 0))), (a2_3_14_x, .inl (ay 0, 25, .inl (fun i => if 2 = 2 ∧ 0 ≤ i ∧ i < 0 + 25 then (-1 : Int32) else 0))), (a15_x, .inl (ay 0, 6, .inl (fun _ => 0)))] := hD
  refine W.widen (k := 39) (n := 1408) (by omega) (by omega) ?_
  refine lv_astore_n (lv' := [(1, .ref qx), (0, .ref b)]) hx hb (dtL_0 (7, .astore_n 1, 1) (mg 3 rfl)) rfl hl (by decide) rfl (fun ls hl => ?_)
  refine va_new (ci := 6) (fs := [.null, .null, .null, .null, .long 0, .long 0, .null, .null, .null, .null, .null, .int 0, .int 0, .int 0, .int 0, .int 0, .null, .null]) (C := RX8) (T := TX8) (N := 18) hx hb htg inX8 tyX8 tyX8_ok hown (htg _ (gw_3 205 rfl rfl)) (htg _ (gw_3 206 rfl rfl)) (htg _ (gw_1 8 rfl rfl)) hK hP hD hS hA rfl (fun j hj => by rcases (show j = 0 ∨ j = 1 ∨ j = 2 ∨ j = 3 ∨ j = 4 ∨ j = 5 ∨ j = 6 ∨ j = 7 ∨ j = 8 ∨ j = 9 ∨ j = 10 ∨ j = 11 ∨ j = 12 ∨ j = 13 ∨ j = 14 ∨ j = 15 ∨ j = 16 ∨ j = 17 by omega) with rfl | rfl | rfl | rfl | rfl | rfl | rfl | rfl | rfl | rfl | rfl | rfl | rfl | rfl | rfl | rfl | rfl | rfl <;> rfl) (Nat.le_of_ble_eq_true rfl) (Nat.le_of_ble_eq_true rfl) (dtL_0 (8, .new 10, 3) (mg 4 rfl)) (fun qm H hP hD hS => ?_)
  have hP : va_P D vwCl [(qx, .inr (5, [.ref b1_x, .ref a3_x, .ref a8_x, .ref b9_x, .ref b11_x, .ref b13_x, .ref a15_x, .long 0, .long 1, .int 0, .int 0, .int 0])), (b1_x, .inr (2, [.ref b1_2_x, .ref b3_2_x, .ref a5_2_x, .ref a6_2_x, .int 0, .int 0])), (b1_2_x, .inr (0, [.ref a1_2_2_x, .ref a2_2_2_x, .int 0, .int 0, .int 0])), (a1_2_2_x, .inl (ay 0, 25, .inl (fun _ => 0))), (a2_2_2_x, .inl (ay 0, 25, .inl (fun i => if 2 = 2 ∧ 0 ≤ i ∧ i < 0 + 25 then (-1 : Int32) else 0))), (b3_2_x, .inr (1, [.ref a1_4_2_x, .int 0])), (a1_4_2_x, .inl (ay 0, 216, .inl (fun _ => 0))), (a5_2_x, .inl (ay 0, 20, .inl (fun _ => 0))), (a6_2_x, .inl (ay 0, 18, .inl (fun _ => 0))), (a3_x, .inl (ay 2, 2, .inr (.inr (.inr (.inr (va_up (va_up (fun _ => none) (0 : Int32).toNatClampNeg (some b4_x)) (1 : Int32).toNatClampNeg (some b6_x))))))), (b4_x, .inr (2, [.ref b1_5_x, .ref b3_5_x, .ref a5_5_x, .ref a6_5_x, .int 0, .int 0])), (b1_5_x, .inr (0, [.ref a1_2_5_x, .ref a2_2_5_x, .int 0, .int 0, .int 0])), (a1_2_5_x, .inl (ay 0, 25, .inl (fun _ => 0))), (a2_2_5_x, .inl (ay 0, 25, .inl (fun i => if 2 = 2 ∧ 0 ≤ i ∧ i < 0 + 25 then (-1 : Int32) else 0))), (b3_5_x, .inr (1, [.ref a1_4_5_x, .int 0])), (a1_4_5_x, .inl (ay 0, 216, .inl (fun _ => 0))), (a5_5_x, .inl (ay 0, 20, .inl (fun _ => 0))), (a6_5_x, .inl (ay 0, 18, .inl (fun _ => 0))), (b6_x, .inr (2, [.ref b1_7_x, .ref b3_7_x, .ref a5_7_x, .ref a6_7_x, .int 0, .int 0])), (b1_7_x, .inr (0, [.ref a1_2_7_x, .ref a2_2_7_x, .int 0, .int 0, .int 0])), (a1_2_7_x, .inl (ay 0, 25, .inl (fun _ => 0))), (a2_2_7_x, .inl (ay 0, 25, .inl (fun i => if 2 = 2 ∧ 0 ≤ i ∧ i < 0 + 25 then (-1 : Int32) else 0))), (b3_7_x, .inr (1, [.ref a1_4_7_x, .int 0])), (a1_4_7_x, .inl (ay 0, 216, .inl (fun _ => 0))), (a5_7_x, .inl (ay 0, 20, .inl (fun _ => 0))), (a6_7_x, .inl (ay 0, 18, .inl (fun _ => 0))), (a8_x, .inl (ay 1, 2, .inl (fun _ => 0))), (b9_x, .inr (0, [.ref a1_10_x, .ref a2_10_x, .int 0, .int 0, .int 0])), (a1_10_x, .inl (ay 0, 25, .inl (fun _ => 0))), (a2_10_x, .inl (ay 0, 25, .inl (fun i => if 2 = 2 ∧ 0 ≤ i ∧ i < 0 + 25 then (-1 : Int32) else 0))), (b11_x, .inr (4, [.ref a1_12_x, .ref a2_12_x, .int 0])), (a1_12_x, .inl (ay 0, 5, .inl (fun _ => 0))), (a2_12_x, .inl (ay 0, 160, .inl (fun _ => 0))), (b13_x, .inr (3, [.ref a1_14_x, .ref b2_14_x, .int 0, .int 0, .int 0, .int 0, .int 0])), (a1_14_x, .inl (ay 0, 150, .inl (fun _ => 0))), (b2_14_x, .inr (0, [.ref a1_3_14_x, .ref a2_3_14_x, .int 0, .int 0, .int 0])), (a1_3_14_x, .inl (ay 0, 25, .inl (fun _ => 0))), (a2_3_14_x, .inl (ay 0, 25, .inl (fun i => if 2 = 2 ∧ 0 ≤ i ∧ i < 0 + 25 then (-1 : Int32) else 0))), (a15_x, .inl (ay 0, 6, .inl (fun _ => 0))), (qm, .inr (6, [.null, .null, .null, .null, .long 0, .long 0, .null, .null, .null, .null, .null, .int 0, .int 0, .int 0, .int 0, .int 0, .null, .null]))] H := hP
  have hD : va_D A [(qx, .inr (5, [.ref b1_x, .ref a3_x, .ref a8_x, .ref b9_x, .ref b11_x, .ref b13_x, .ref a15_x, .long 0, .long 1, .int 0, .int 0, .int 0])), (b1_x, .inr (2, [.ref b1_2_x, .ref b3_2_x, .ref a5_2_x, .ref a6_2_x, .int 0, .int 0])), (b1_2_x, .inr (0, [.ref a1_2_2_x, .ref a2_2_2_x, .int 0, .int 0, .int 0])), (a1_2_2_x, .inl (ay 0, 25, .inl (fun _ => 0))), (a2_2_2_x, .inl (ay 0, 25, .inl (fun i => if 2 = 2 ∧ 0 ≤ i ∧ i < 0 + 25 then (-1 : Int32) else 0))), (b3_2_x, .inr (1, [.ref a1_4_2_x, .int 0])), (a1_4_2_x, .inl (ay 0, 216, .inl (fun _ => 0))), (a5_2_x, .inl (ay 0, 20, .inl (fun _ => 0))), (a6_2_x, .inl (ay 0, 18, .inl (fun _ => 0))), (a3_x, .inl (ay 2, 2, .inr (.inr (.inr (.inr (va_up (va_up (fun _ => none) (0 : Int32).toNatClampNeg (some b4_x)) (1 : Int32).toNatClampNeg (some b6_x))))))), (b4_x, .inr (2, [.ref b1_5_x, .ref b3_5_x, .ref a5_5_x, .ref a6_5_x, .int 0, .int 0])), (b1_5_x, .inr (0, [.ref a1_2_5_x, .ref a2_2_5_x, .int 0, .int 0, .int 0])), (a1_2_5_x, .inl (ay 0, 25, .inl (fun _ => 0))), (a2_2_5_x, .inl (ay 0, 25, .inl (fun i => if 2 = 2 ∧ 0 ≤ i ∧ i < 0 + 25 then (-1 : Int32) else 0))), (b3_5_x, .inr (1, [.ref a1_4_5_x, .int 0])), (a1_4_5_x, .inl (ay 0, 216, .inl (fun _ => 0))), (a5_5_x, .inl (ay 0, 20, .inl (fun _ => 0))), (a6_5_x, .inl (ay 0, 18, .inl (fun _ => 0))), (b6_x, .inr (2, [.ref b1_7_x, .ref b3_7_x, .ref a5_7_x, .ref a6_7_x, .int 0, .int 0])), (b1_7_x, .inr (0, [.ref a1_2_7_x, .ref a2_2_7_x, .int 0, .int 0, .int 0])), (a1_2_7_x, .inl (ay 0, 25, .inl (fun _ => 0))), (a2_2_7_x, .inl (ay 0, 25, .inl (fun i => if 2 = 2 ∧ 0 ≤ i ∧ i < 0 + 25 then (-1 : Int32) else 0))), (b3_7_x, .inr (1, [.ref a1_4_7_x, .int 0])), (a1_4_7_x, .inl (ay 0, 216, .inl (fun _ => 0))), (a5_7_x, .inl (ay 0, 20, .inl (fun _ => 0))), (a6_7_x, .inl (ay 0, 18, .inl (fun _ => 0))), (a8_x, .inl (ay 1, 2, .inl (fun _ => 0))), (b9_x, .inr (0, [.ref a1_10_x, .ref a2_10_x, .int 0, .int 0, .int 0])), (a1_10_x, .inl (ay 0, 25, .inl (fun _ => 0))), (a2_10_x, .inl (ay 0, 25, .inl (fun i => if 2 = 2 ∧ 0 ≤ i ∧ i < 0 + 25 then (-1 : Int32) else 0))), (b11_x, .inr (4, [.ref a1_12_x, .ref a2_12_x, .int 0])), (a1_12_x, .inl (ay 0, 5, .inl (fun _ => 0))), (a2_12_x, .inl (ay 0, 160, .inl (fun _ => 0))), (b13_x, .inr (3, [.ref a1_14_x, .ref b2_14_x, .int 0, .int 0, .int 0, .int 0, .int 0])), (a1_14_x, .inl (ay 0, 150, .inl (fun _ => 0))), (b2_14_x, .inr (0, [.ref a1_3_14_x, .ref a2_3_14_x, .int 0, .int 0, .int 0])), (a1_3_14_x, .inl (ay 0, 25, .inl (fun _ => 0))), (a2_3_14_x, .inl (ay 0, 25, .inl (fun i => if 2 = 2 ∧ 0 ≤ i ∧ i < 0 + 25 then (-1 : Int32) else 0))), (a15_x, .inl (ay 0, 6, .inl (fun _ => 0))), (qm, .inr (6, [.null, .null, .null, .null, .long 0, .long 0, .null, .null, .null, .null, .null, .int 0, .int 0, .int 0, .int 0, .int 0, .null, .null]))] := hD
  refine W.widen (k := 40) (n := 1426) (by omega) (by omega) ?_
  refine lv_dup hx hb (dtL_0 (11, .dup, 1) (mg 5 rfl)) rfl ?_
  have hPc := hP.sub (ws' := [(qm, .inr (6, [.null, .null, .null, .null, .long 0, .long 0, .null, .null, .null, .null, .null, .int 0, .int 0, .int 0, .int 0, .int 0, .null, .null]))]) [39] rfl
  refine i_go (wc := [(qm, .inr (6, [.null, .null, .null, .null, .long 0, .long 0, .null, .null, .null, .null, .null, .int 0, .int 0, .int 0, .int 0, .int 0, .null, .null]))]) (wr := [(qx, .inr (5, [.ref b1_x, .ref a3_x, .ref a8_x, .ref b9_x, .ref b11_x, .ref b13_x, .ref a15_x, .long 0, .long 1, .int 0, .int 0, .int 0])), (b1_x, .inr (2, [.ref b1_2_x, .ref b3_2_x, .ref a5_2_x, .ref a6_2_x, .int 0, .int 0])), (b1_2_x, .inr (0, [.ref a1_2_2_x, .ref a2_2_2_x, .int 0, .int 0, .int 0])), (a1_2_2_x, .inl (ay 0, 25, .inl (fun _ => 0))), (a2_2_2_x, .inl (ay 0, 25, .inl (fun i => if 2 = 2 ∧ 0 ≤ i ∧ i < 0 + 25 then (-1 : Int32) else 0))), (b3_2_x, .inr (1, [.ref a1_4_2_x, .int 0])), (a1_4_2_x, .inl (ay 0, 216, .inl (fun _ => 0))), (a5_2_x, .inl (ay 0, 20, .inl (fun _ => 0))), (a6_2_x, .inl (ay 0, 18, .inl (fun _ => 0))), (a3_x, .inl (ay 2, 2, .inr (.inr (.inr (.inr (va_up (va_up (fun _ => none) (0 : Int32).toNatClampNeg (some b4_x)) (1 : Int32).toNatClampNeg (some b6_x))))))), (b4_x, .inr (2, [.ref b1_5_x, .ref b3_5_x, .ref a5_5_x, .ref a6_5_x, .int 0, .int 0])), (b1_5_x, .inr (0, [.ref a1_2_5_x, .ref a2_2_5_x, .int 0, .int 0, .int 0])), (a1_2_5_x, .inl (ay 0, 25, .inl (fun _ => 0))), (a2_2_5_x, .inl (ay 0, 25, .inl (fun i => if 2 = 2 ∧ 0 ≤ i ∧ i < 0 + 25 then (-1 : Int32) else 0))), (b3_5_x, .inr (1, [.ref a1_4_5_x, .int 0])), (a1_4_5_x, .inl (ay 0, 216, .inl (fun _ => 0))), (a5_5_x, .inl (ay 0, 20, .inl (fun _ => 0))), (a6_5_x, .inl (ay 0, 18, .inl (fun _ => 0))), (b6_x, .inr (2, [.ref b1_7_x, .ref b3_7_x, .ref a5_7_x, .ref a6_7_x, .int 0, .int 0])), (b1_7_x, .inr (0, [.ref a1_2_7_x, .ref a2_2_7_x, .int 0, .int 0, .int 0])), (a1_2_7_x, .inl (ay 0, 25, .inl (fun _ => 0))), (a2_2_7_x, .inl (ay 0, 25, .inl (fun i => if 2 = 2 ∧ 0 ≤ i ∧ i < 0 + 25 then (-1 : Int32) else 0))), (b3_7_x, .inr (1, [.ref a1_4_7_x, .int 0])), (a1_4_7_x, .inl (ay 0, 216, .inl (fun _ => 0))), (a5_7_x, .inl (ay 0, 20, .inl (fun _ => 0))), (a6_7_x, .inl (ay 0, 18, .inl (fun _ => 0))), (a8_x, .inl (ay 1, 2, .inl (fun _ => 0))), (b9_x, .inr (0, [.ref a1_10_x, .ref a2_10_x, .int 0, .int 0, .int 0])), (a1_10_x, .inl (ay 0, 25, .inl (fun _ => 0))), (a2_10_x, .inl (ay 0, 25, .inl (fun i => if 2 = 2 ∧ 0 ≤ i ∧ i < 0 + 25 then (-1 : Int32) else 0))), (b11_x, .inr (4, [.ref a1_12_x, .ref a2_12_x, .int 0])), (a1_12_x, .inl (ay 0, 5, .inl (fun _ => 0))), (a2_12_x, .inl (ay 0, 160, .inl (fun _ => 0))), (b13_x, .inr (3, [.ref a1_14_x, .ref b2_14_x, .int 0, .int 0, .int 0, .int 0, .int 0])), (a1_14_x, .inl (ay 0, 150, .inl (fun _ => 0))), (b2_14_x, .inr (0, [.ref a1_3_14_x, .ref a2_3_14_x, .int 0, .int 0, .int 0])), (a1_3_14_x, .inl (ay 0, 25, .inl (fun _ => 0))), (a2_3_14_x, .inl (ay 0, 25, .inl (fun i => if 2 = 2 ∧ 0 ≤ i ∧ i < 0 + 25 then (-1 : Int32) else 0))), (a15_x, .inl (ay 0, 6, .inl (fun _ => 0)))]) (va_runI (Ts := gW) (own := R_law) (cc := code) (nL := 4) (n := 0) (bytes := cX8_init) (maxL := 1) (As := []) (rest := [.ref qm]) (index := 12) ⟨hx, hb, hml, hown, htg⟩ (ci_X8 l D ay qm H.size) ⟨callB_of 0 htg (gL (gw_3 209 rfl rfl)) rfl rfl rfl (htg _ (gw_1 8 rfl rfl)) (htg _ (gw_3 207 rfl rfl)) ⟨by decide, by decide, by decide +kernel⟩ ⟨Nat.le_of_ble_eq_true rfl, Nat.le_of_ble_eq_true rfl⟩, rfl, htg _ (gw_3 208 rfl rfl)⟩ ⟨fun a U g mk q => by obtain ⟨q0, q1, qP, qK, qE⟩ := q; exact ⟨q0, q1, qP, va_K.moved (u := U) (U := U.calling g mk a) (Vm.Alike.refl U.vm) qK, nE_same (U := U) (V := U.calling g mk a) rfl qE⟩, fun U hU hW => ⟨rfl, by rw [hU], by rw [hU]; exact hPc, va_K.moved hW.alike hK, nE_warm hW hE⟩⟩ rfl rfl hl.1 rfl (lv_room (Nat.le_of_ble_eq_true rfl)) (dtL_0 (12, .invokespecial 12, 3) (mg 6 rfl)) ⟨Nat.le_of_ble_eq_true rfl, Nat.le_of_ble_eq_true rfl⟩) hP hD hS hA [39] [0, 1, 2, 3, 4, 5, 6, 7, 8, 9, 10, 11, 12, 13, 14, 15, 16, 17, 18, 19, 20, 21, 22, 23, 24, 25, 26, 27, 28, 29, 30, 31, 32, 33, 34, 35, 36, 37, 38] rfl rfl (by decide) (by decide) (fun ws1 H locs hB hP hD hS => ?_)
  obtain ⟨a1_m, a2_m, a3_m, a4_m, a5_m, a6_m, a7_m, a8_m, a9_m, a10_m, a11_m, rfl⟩ := hB
  have hP : va_P D vwCl [(qx, .inr (5, [.ref b1_x, .ref a3_x, .ref a8_x, .ref b9_x, .ref b11_x, .ref b13_x, .ref a15_x, .long 0, .long 1, .int 0, .int 0, .int 0])), (b1_x, .inr (2, [.ref b1_2_x, .ref b3_2_x, .ref a5_2_x, .ref a6_2_x, .int 0, .int 0])), (b1_2_x, .inr (0, [.ref a1_2_2_x, .ref a2_2_2_x, .int 0, .int 0, .int 0])), (a1_2_2_x, .inl (ay 0, 25, .inl (fun _ => 0))), (a2_2_2_x, .inl (ay 0, 25, .inl (fun i => if 2 = 2 ∧ 0 ≤ i ∧ i < 0 + 25 then (-1 : Int32) else 0))), (b3_2_x, .inr (1, [.ref a1_4_2_x, .int 0])), (a1_4_2_x, .inl (ay 0, 216, .inl (fun _ => 0))), (a5_2_x, .inl (ay 0, 20, .inl (fun _ => 0))), (a6_2_x, .inl (ay 0, 18, .inl (fun _ => 0))), (a3_x, .inl (ay 2, 2, .inr (.inr (.inr (.inr (va_up (va_up (fun _ => none) (0 : Int32).toNatClampNeg (some b4_x)) (1 : Int32).toNatClampNeg (some b6_x))))))), (b4_x, .inr (2, [.ref b1_5_x, .ref b3_5_x, .ref a5_5_x, .ref a6_5_x, .int 0, .int 0])), (b1_5_x, .inr (0, [.ref a1_2_5_x, .ref a2_2_5_x, .int 0, .int 0, .int 0])), (a1_2_5_x, .inl (ay 0, 25, .inl (fun _ => 0))), (a2_2_5_x, .inl (ay 0, 25, .inl (fun i => if 2 = 2 ∧ 0 ≤ i ∧ i < 0 + 25 then (-1 : Int32) else 0))), (b3_5_x, .inr (1, [.ref a1_4_5_x, .int 0])), (a1_4_5_x, .inl (ay 0, 216, .inl (fun _ => 0))), (a5_5_x, .inl (ay 0, 20, .inl (fun _ => 0))), (a6_5_x, .inl (ay 0, 18, .inl (fun _ => 0))), (b6_x, .inr (2, [.ref b1_7_x, .ref b3_7_x, .ref a5_7_x, .ref a6_7_x, .int 0, .int 0])), (b1_7_x, .inr (0, [.ref a1_2_7_x, .ref a2_2_7_x, .int 0, .int 0, .int 0])), (a1_2_7_x, .inl (ay 0, 25, .inl (fun _ => 0))), (a2_2_7_x, .inl (ay 0, 25, .inl (fun i => if 2 = 2 ∧ 0 ≤ i ∧ i < 0 + 25 then (-1 : Int32) else 0))), (b3_7_x, .inr (1, [.ref a1_4_7_x, .int 0])), (a1_4_7_x, .inl (ay 0, 216, .inl (fun _ => 0))), (a5_7_x, .inl (ay 0, 20, .inl (fun _ => 0))), (a6_7_x, .inl (ay 0, 18, .inl (fun _ => 0))), (a8_x, .inl (ay 1, 2, .inl (fun _ => 0))), (b9_x, .inr (0, [.ref a1_10_x, .ref a2_10_x, .int 0, .int 0, .int 0])), (a1_10_x, .inl (ay 0, 25, .inl (fun _ => 0))), (a2_10_x, .inl (ay 0, 25, .inl (fun i => if 2 = 2 ∧ 0 ≤ i ∧ i < 0 + 25 then (-1 : Int32) else 0))), (b11_x, .inr (4, [.ref a1_12_x, .ref a2_12_x, .int 0])), (a1_12_x, .inl (ay 0, 5, .inl (fun _ => 0))), (a2_12_x, .inl (ay 0, 160, .inl (fun _ => 0))), (b13_x, .inr (3, [.ref a1_14_x, .ref b2_14_x, .int 0, .int 0, .int 0, .int 0, .int 0])), (a1_14_x, .inl (ay 0, 150, .inl (fun _ => 0))), (b2_14_x, .inr (0, [.ref a1_3_14_x, .ref a2_3_14_x, .int 0, .int 0, .int 0])), (a1_3_14_x, .inl (ay 0, 25, .inl (fun _ => 0))), (a2_3_14_x, .inl (ay 0, 25, .inl (fun i => if 2 = 2 ∧ 0 ≤ i ∧ i < 0 + 25 then (-1 : Int32) else 0))), (a15_x, .inl (ay 0, 6, .inl (fun _ => 0))), (qm, .inr (6, [.ref a1_m, .ref a2_m, .ref a3_m, .ref a4_m, .long 0, .long 1, .ref a5_m, .ref a6_m, .ref a7_m, .ref a8_m, .ref a9_m, .int 0, .int 0, .int 0, .int 0, .int 0, .ref a10_m, .ref a11_m])), (a1_m, .inl (ay 0, 310, .inl (bgH (fun _ _ => 0) 1 0 0 1))), (a2_m, .inl (ay 0, 620, .inl (fun _ => 0))), (a3_m, .inl (ay 1, 2, .inl (fun _ => 0))), (a4_m, .inl (ay 0, 3, .inl (fun _ => 0))), (a5_m, .inl (ay 0, 56, .inl (fun _ => 0))), (a6_m, .inl (ay 0, 5, .inl (fun _ => 0))), (a7_m, .inl (ay 0, 800, .inl (fun _ => 0))), (a8_m, .inl (ay 0, 6, .inl (fun _ => 0))), (a9_m, .inl (ay 0, 150, .inl (fun _ => 0))), (a10_m, .inl (ay 0, 94, .inl (fun _ => 0))), (a11_m, .inl (ay 0, 2, .inl (fun _ => 0)))] H := hP
  have hD : va_D A [(qx, .inr (5, [.ref b1_x, .ref a3_x, .ref a8_x, .ref b9_x, .ref b11_x, .ref b13_x, .ref a15_x, .long 0, .long 1, .int 0, .int 0, .int 0])), (b1_x, .inr (2, [.ref b1_2_x, .ref b3_2_x, .ref a5_2_x, .ref a6_2_x, .int 0, .int 0])), (b1_2_x, .inr (0, [.ref a1_2_2_x, .ref a2_2_2_x, .int 0, .int 0, .int 0])), (a1_2_2_x, .inl (ay 0, 25, .inl (fun _ => 0))), (a2_2_2_x, .inl (ay 0, 25, .inl (fun i => if 2 = 2 ∧ 0 ≤ i ∧ i < 0 + 25 then (-1 : Int32) else 0))), (b3_2_x, .inr (1, [.ref a1_4_2_x, .int 0])), (a1_4_2_x, .inl (ay 0, 216, .inl (fun _ => 0))), (a5_2_x, .inl (ay 0, 20, .inl (fun _ => 0))), (a6_2_x, .inl (ay 0, 18, .inl (fun _ => 0))), (a3_x, .inl (ay 2, 2, .inr (.inr (.inr (.inr (va_up (va_up (fun _ => none) (0 : Int32).toNatClampNeg (some b4_x)) (1 : Int32).toNatClampNeg (some b6_x))))))), (b4_x, .inr (2, [.ref b1_5_x, .ref b3_5_x, .ref a5_5_x, .ref a6_5_x, .int 0, .int 0])), (b1_5_x, .inr (0, [.ref a1_2_5_x, .ref a2_2_5_x, .int 0, .int 0, .int 0])), (a1_2_5_x, .inl (ay 0, 25, .inl (fun _ => 0))), (a2_2_5_x, .inl (ay 0, 25, .inl (fun i => if 2 = 2 ∧ 0 ≤ i ∧ i < 0 + 25 then (-1 : Int32) else 0))), (b3_5_x, .inr (1, [.ref a1_4_5_x, .int 0])), (a1_4_5_x, .inl (ay 0, 216, .inl (fun _ => 0))), (a5_5_x, .inl (ay 0, 20, .inl (fun _ => 0))), (a6_5_x, .inl (ay 0, 18, .inl (fun _ => 0))), (b6_x, .inr (2, [.ref b1_7_x, .ref b3_7_x, .ref a5_7_x, .ref a6_7_x, .int 0, .int 0])), (b1_7_x, .inr (0, [.ref a1_2_7_x, .ref a2_2_7_x, .int 0, .int 0, .int 0])), (a1_2_7_x, .inl (ay 0, 25, .inl (fun _ => 0))), (a2_2_7_x, .inl (ay 0, 25, .inl (fun i => if 2 = 2 ∧ 0 ≤ i ∧ i < 0 + 25 then (-1 : Int32) else 0))), (b3_7_x, .inr (1, [.ref a1_4_7_x, .int 0])), (a1_4_7_x, .inl (ay 0, 216, .inl (fun _ => 0))), (a5_7_x, .inl (ay 0, 20, .inl (fun _ => 0))), (a6_7_x, .inl (ay 0, 18, .inl (fun _ => 0))), (a8_x, .inl (ay 1, 2, .inl (fun _ => 0))), (b9_x, .inr (0, [.ref a1_10_x, .ref a2_10_x, .int 0, .int 0, .int 0])), (a1_10_x, .inl (ay 0, 25, .inl (fun _ => 0))), (a2_10_x, .inl (ay 0, 25, .inl (fun i => if 2 = 2 ∧ 0 ≤ i ∧ i < 0 + 25 then (-1 : Int32) else 0))), (b11_x, .inr (4, [.ref a1_12_x, .ref a2_12_x, .int 0])), (a1_12_x, .inl (ay 0, 5, .inl (fun _ => 0))), (a2_12_x, .inl (ay 0, 160, .inl (fun _ => 0))), (b13_x, .inr (3, [.ref a1_14_x, .ref b2_14_x, .int 0, .int 0, .int 0, .int 0, .int 0])), (a1_14_x, .inl (ay 0, 150, .inl (fun _ => 0))), (b2_14_x, .inr (0, [.ref a1_3_14_x, .ref a2_3_14_x, .int 0, .int 0, .int 0])), (a1_3_14_x, .inl (ay 0, 25, .inl (fun _ => 0))), (a2_3_14_x, .inl (ay 0, 25, .inl (fun i => if 2 = 2 ∧ 0 ≤ i ∧ i < 0 + 25 then (-1 : Int32) else 0))), (a15_x, .inl (ay 0, 6, .inl (fun _ => 0))), (qm, .inr (6, [.ref a1_m, .ref a2_m, .ref a3_m, .ref a4_m, .long 0, .long 1, .ref a5_m, .ref a6_m, .ref a7_m, .ref a8_m, .ref a9_m, .int 0, .int 0, .int 0, .int 0, .int 0, .ref a10_m, .ref a11_m])), (a1_m, .inl (ay 0, 310, .inl (bgH (fun _ _ => 0) 1 0 0 1))), (a2_m, .inl (ay 0, 620, .inl (fun _ => 0))), (a3_m, .inl (ay 1, 2, .inl (fun _ => 0))), (a4_m, .inl (ay 0, 3, .inl (fun _ => 0))), (a5_m, .inl (ay 0, 56, .inl (fun _ => 0))), (a6_m, .inl (ay 0, 5, .inl (fun _ => 0))), (a7_m, .inl (ay 0, 800, .inl (fun _ => 0))), (a8_m, .inl (ay 0, 6, .inl (fun _ => 0))), (a9_m, .inl (ay 0, 150, .inl (fun _ => 0))), (a10_m, .inl (ay 0, 94, .inl (fun _ => 0))), (a11_m, .inl (ay 0, 2, .inl (fun _ => 0)))] := hD
  refine W.widen (k := 51) (n := 3474) (by omega) (by omega) ?_
  refine lv_astore_n (lv' := [(2, .ref qm), (1, .ref qx), (0, .ref b)]) hx hb (dtL_0 (15, .astore_n 2, 1) (mg 7 rfl)) rfl hl (by decide) rfl (fun ls hl => ?_)
  refine lv_iconst (v := 0) hx hb (dtL_0 (16, .iconst 0, 1) (mg 8 rfl)) (by decide) ?_
  refine lv_istore_n (lv' := [(3, .int 0), (2, .ref qm), (1, .ref qx), (0, .ref b)]) hx hb (dtL_0 (17, .istore_n 3, 1) (mg 9 rfl)) rfl hl (by decide) rfl (fun ls hl => ?_)
  obtain ⟨ad, had⟩ : ∃ ad : Nat → Nat, ad = fun p => ([qx, b1_x, b1_2_x, a1_2_2_x, a2_2_2_x, b3_2_x, a1_4_2_x, a5_2_x, a6_2_x, a3_x, b4_x, b1_5_x, a1_2_5_x, a2_2_5_x, b3_5_x, a1_4_5_x, a5_5_x, a6_5_x, b6_x, b1_7_x, a1_2_7_x, a2_2_7_x, b3_7_x, a1_4_7_x, a5_7_x, a6_7_x, a8_x, b9_x, a1_10_x, a2_10_x, b11_x, a1_12_x, a2_12_x, b13_x, a1_14_x, b2_14_x, a1_3_14_x, a2_3_14_x, a15_x, qm, a1_m, a2_m, a3_m, a4_m, a5_m, a6_m, a7_m, a8_m, a9_m, a10_m, a11_m] : List Nat).getD p 0 := ⟨_, rfl⟩
  have eim : (va_up (va_up (fun _ => none) (0 : Int32).toNatClampNeg (some b4_x)) (1 : Int32).toNatClampNeg (some b6_x)) = fun i => (([10, 18] : List Nat)[i]?).map ad := by
    rw [had]; funext i
    match i with
    | 0 => rfl
    | 1 => rfl
    | i + 2 => rfl
  rw [eim] at hP
  have hij : wIj (lwW D ay ad aK aV zr) := ij_of hD (by rw [had]; rfl)
  have hw := lwW_ok hij
  have haw : ∀ q, Aw (lwW D ay ad aK aV zr) q → A q := fun q h => aw_of hD (by rw [had]; rfl) h
  have hPw : va_P (wD (lwW D ay ad aK aV zr)) vwCl (wW (lwW D ay ad aK aV zr) lwH lwG) H := by
    rw [had] at hP ⊢; exact hP
  have hwE : wE (lwW D ay ad aK aV zr) s := ⟨hE, hstr _ (fun q z => by have := haw q z; rw [hAe] at this; exact this)⟩
  have hlh : lh ls [some (.ref b), some (.ref (wA (lwW D ay ad aK aV zr) 0)), some (.ref (wA (lwW D ay ad aK aV zr) 39)), some (.int (nI 0))] := by
    have e0 : wA (lwW D ay ad aK aV zr) 0 = qx := by show ad 0 = qx; rw [had]; rfl
    have e1 : wA (lwW D ay ad aK aV zr) 39 = qm := by show ad 39 = qm; rw [had]; rfl
    rw [e0, e1]
    refine ⟨hl.1, hl.2.1, fun i v e => ?_⟩
    match i, e with
    | 0, e => cases e; exact hl.2.2 (0, .ref b) (by simp)
    | 1, e => cases e; exact hl.2.2 (1, .ref qx) (by simp)
    | 2, e => cases e; exact hl.2.2 (2, .ref qm) (by simp)
    | 3, e => cases e; exact hl.2.2 (3, .int 0) (by simp)
    | i + 4, e => simp at e
  have hend : ∀ ls h g, X (p, l, e, room_1, s, m, #[Value.ref b], below, meth, c, A, 51, 3474) (lwW D ay ad aK aV zr) (lw_Z below #[Value.ref b] s) 1085 ls [.int (nI 1)] h g := by
    intro ls h g H locs arr hP hS hl
    refine va_forget (fun q hq => by have := hS.2.2 q hq; rw [hAe] at this; exact this) ?_
    refine W.widen (k := 600000) (n := 7302250) (Nat.le_of_ble_eq_true rfl) (Nat.le_of_ble_eq_true rfl) ?_
    exact lw_ret hx hb hr hlocks (dtL_14 (1085, .ireturn, 1) (mg 15 rfl))
  exact law_loop (k := (p, l, e, room_1, s, m, #[Value.ref b], below, meth, c, A, 51, 3474)) (Z0 := lw_Z below #[Value.ref b] s) hw (x := 0) (m := 39) (b := b) (L := L) (xs := xs) (lwW_s) hz lw_shC lw_shM (by omega) hL ⟨hx, hb, hml, hown, htg, hr, hlocks, hK, hij, fun i hi => haw _ ⟨i, hi, rfl⟩, ⟨hw, hwE, fun q h1 h2 => by rw [hAe] at h2; have : s.heap.size ≤ q := h2; omega⟩, rfl, rfl, Nat.le_of_ble_eq_true rfl, Nat.le_of_ble_eq_true rfl⟩ ⟨hX, hbl, hbA⟩ hend lwH lwG lw_J2 lw_CF lw_MF lw_GF H _ ls hPw hS hlh
set_option maxHeartbeats 4000000 in
theorem lw_walk (l : Launch) (b : Addr) (xs : List Int32) : MetFree l x (headSpec (Jvm.Cond.code x code maxLocals ret :: tables_1) room_1) (lw_P b xs) (fun _ _ _ _ _ => True) lw_Q := by
  refine MetFree.of_bodyS (code := code) (maxLocals := maxLocals) (ret := ret) (by decide) ?_ ?_
  · intro args s m h hn
    obtain ⟨meth, c, h1, h2, h3, h4, h5, h6, -, -⟩ := Cond.code_spec hn (atoms_spec (ws := Jvm.Cond.code x code maxLocals ret :: tables_1) h _ List.mem_cons_self)
    exact ⟨meth, c, h1, h2, h3, h4, h5, h6⟩
  · intro p e s m args below meth c s₁ B hml0 hP _
    obtain ⟨rfl, hx, hbd, hgv⟩ := hP
    obtain ⟨scr, harrAt, hlist, hof, hsmall⟩ := hx
    obtain ⟨hcb, hkn, -, -⟩ := State.arrayAt?_spec harrAt
    have hown : s.vm.findClass R_law = some m.cls := findClass_of_methodNamed B.named
    have hts0 : ∀ c ∈ (Jvm.Cond.code x code maxLocals ret :: tables_1), c.before #[Value.ref b] s = true := atoms_spec (ws := Jvm.Cond.code x code maxLocals ret :: tables_1) B.pre
    have hts : ∀ w ∈ lw_tbl, w.before #[Value.ref b] s = true := k2_hts_sels lw_privs (fun w hw => hts0 w (List.mem_cons_of_mem _ hw)) lw_privs_ok
    have hml : c.maxLocals = 4 := B.maxLocals_eq (hts0 _ List.mem_cons_self)
    have X₀ : Stand p l e room_1 s m #[Value.ref b] below meth c s₁ [] 0 0 := Stand.of_body B
    have hh0 : s₁.heap = s.heap := by rw [B.state]; rfl
    have hsz : scr.slots.size = xs.length := by rw [← Array.length_toList, hlist, List.length_map]
    have hval : ∀ j : Nat, j < xs.length → scr.slots[j]? = some (.int (xs.getD j 0)) := fun j hj => by
      rw [← Array.getElem?_toList, hlist]
      simp [hj]
    have hbl : b < s.heap.size := (Array.getElem?_eq_some_iff.mp hcb).1
    have hX : va_X b xs.length (fun j => xs.getD j 0) s s.heap := ⟨scr, hcb, hof, hkn, hsz, hval⟩
    have K : W p l e room_1 s m #[Value.ref b] below meth c s₁.heap [] 0 0 (lw_Z below #[Value.ref b] s) (entryFrame m ([Value.ref b] : List Value).toArray 4) := by
      rw [hh0]
      exact whole_start l hbd ⟨B.exec, B.bytes, B.returns, hml, hown, hts, hX, hbl, B.notSynchronized, hgv⟩
    obtain ⟨t, a1, o, b1, b2, b3⟩ := K s₁ rfl X₀
    exact ⟨t, o, a1, b1, b2, b3⟩
theorem lw_pre_spec {args : Array Value} {s : State} (h : (Jvm.Cond.and given_1 narrow_1).before args s = true) (hr : rest_1_c.before args s = true) : ∃ (b : Addr) (xs : List Int32), lw_P b xs args s := by
  have hs := flat_of_before _ h
  have hq := flat_of_before _ hr
  have hc : (Cond.count 1).before args s = true := hs _ (by decide +kernel)
  have harr : (Cond.arrayOf (.arg 0) .int).before args s = true := hs _ (by decide +kernel)
  have hle : (Cond.le (.length (.arg 0)) (.int 5)).before args s = true := hs _ (by decide +kernel)
  have hlen : (Cond.isInt (.length (.arg 0))).before args s = true := hq _ (by decide +kernel)
  have hall : (Cond.all (.arg 0) (.isInt (.elem (.arg 0) (.index 0)))).before args s = true := hq _ (by decide +kernel)
  obtain ⟨b, xs, hb, hx⟩ := State.ints_of_pre rfl harr hlen hall
  have hsm : xs.length < 2 ^ 31 := hx.choose_spec.2.2.2
  have hev : (Term.length (.arg 0)).eval args s none [] s = some (.int xs.length.toInt32) := hx.length_eval hb
  have hv := Cond.le_ints hev (show (Term.int 5).eval args s none [] s = some (.int 5) from rfl)
  have hd : xs.length.toInt32 ≤ 5 := by
    simpa [Cond.before, Cond.holds, hv] using hle
  have hN : xs.length ≤ 5 := (Int32.ofNat_le_ofNat hsm (by decide)).mp (show Int32.ofNat xs.length ≤ Int32.ofNat 5 from hd)
  exact ⟨b, xs, Cond.one_arg hc (show args[0]? = some (.ref b) from hb), hx, hN, h⟩
theorem lw_comes (l : Launch) : Comes l x (Jvm.Cond.code x code maxLocals ret :: tables_1) room_1 (fun tb e args s => Calls_1 tb e args s ∧ rest_1 tb e args s ∧ Pre_1 tb e args s)
    (fun _ _ args s o t => lw_Q args s o t) := by
  intro p e ha hc hk s m args below hf hfit hheap happ hpre
  obtain ⟨b, xs, hP⟩ := lw_pre_spec hpre.2.2 hpre.2.1
  obtain ⟨k, o, h1, h2, h3, hQ⟩ := lw_walk l b xs p e ha hc hk s m args below hf ((Spec.applies_iff_loose hf).mp happ).1 hP trivial
  exact ⟨k, o, h1, h2, h3, hQ⟩
theorem lw_frame {s t : State} {o : Outcome} {args : Array Value} (h : Framed s o t [] 600000 7302250) :
    Framed s o t (fieldLocs frame_1_writes args s ++ arrayLocs frame_1_arrays args s ++ staticLocs frame_1_statics s) 600000 7302250 := h
theorem lw_limb (L : Cond) (hL : ∀ (args : Array Value) (s t : State), L.after args s (.returned (some (.int 1))) t = true) :
    ArmFor flags0 classFile x code maxLocals ret World_1 tables_1 room_1 Calls_1 rest_1 Pre_1
      (fun tb e a s o t => postC L tb e a s o t ∧ Framed s o t (fieldLocs frame_1_writes a s ++ arrayLocs frame_1_arrays a s ++ staticLocs frame_1_statics s) 600000 7302250) := by
  intro l _ _ _ p e ha hc hk s m args below hf hfit hheap happ hpre
  obtain ⟨k, o, h1, h2, h3, rfl, hF⟩ := lw_comes l p e ha hc hk s m args below hf hfit hheap happ hpre
  exact ⟨k, _, h1, h2, h3, hL args s _, lw_frame hF⟩
theorem i_vc : Claimed_1_1 ∧ Claimed_1_2 := ⟨lw_limb limb_1_1 (fun args s t => by simp [limb_1_1, Cond.after, Cond.holds, Cond.value]), lw_limb limb_1_2 (fun args s t => Cond.after_iff.mpr (by
  first | (rw [show limb_1_2 = Cond.eq .result (.int 1) from rfl, Cond.eq_ints (x := 1) (y := 1) rfl rfl]; simp; done) | (simp [limb_1_2, Cond.value, Term.eval]; done)))⟩
