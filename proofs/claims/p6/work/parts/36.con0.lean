/-! CONSTRUCTORS: the worlds by lists -/
def nE (U : State) : Prop := (∀ x ∈ nW, va_Nw x U) ∧ va_AO "HarrowSaid$State" U
theorem nW_form {x : Cond} (h : x ∈ nW) : ∃ a i y b, x = .methodLinkNest a i y b := by
  have := (List.mem_filter.mp h).2
  cases x <;> first | (cases this; done) | exact ⟨_, _, _, _, rfl⟩
theorem nE_same {U V : State} (h : U.vm = V.vm) (H : nE U) : nE V := by
  refine ⟨fun x hx => ?_, va_AO.moved (by rw [h]; exact Vm.Alike.refl _) H.2⟩
  obtain ⟨a, i, y, b, rfl⟩ := nW_form hx
  exact va_Nw.same rfl h (H.1 _ hx)
theorem nE_warm {s U : State} (h : s.WarmedH U.vm) (H : nE s) : nE U := by
  refine ⟨fun x hx => ?_, va_AO.moved h.alike H.2⟩
  obtain ⟨a, i, y, b, rfl⟩ := nW_form hx
  exact va_Nw.warmM h (H.1 _ hx)
def ciQ (D : va_G) (B : va_W → Prop) (A : Nat → Prop) : Array Value → State → Outcome → State → Prop := fun _ st oc t => (oc = .returned none ∧ ∃ ws, B ws ∧ va_P D vwCl ws t.heap ∧ va_D A ws) ∧ va_F A st t
def ciP (D : va_G) (ay : Nat → ClassId) (q0 ci : Nat) (fs : List Value) (sz : Nat) : Array Value → State → Prop := va_Pc [.ref q0] (fun U => U.heap.size = sz ∧ va_P D vwCl [(q0, .inr (ci, fs))] U.heap ∧ va_K D vwCl (tyl ay) U ∧ nE U)
def CtI (l : Launch) (y : MethodName) (cc : ByteArray) (n fr ce sl lo : Nat) (D : va_G) (ay : Nat → ClassId) (q0 ci : Nat) (fs : List Value) (sz : Nat) (B : va_W → Prop) : Prop := Met l y (wY y cc n none) { frames := fr, cells := ce, slots := sl, locals := lo } (ciP D ay q0 ci fs sz) (ciQ D B (va_A [(q0, .inr (ci, fs))] sz)) ce sl (va_A [(q0, .inr (ci, fs))] sz)
theorem vaD_1 {A : Nat → Prop} {q : Nat} {e : va_E} (h : A q) : va_D A [(q, e)] := by
  refine ⟨fun i j p r h1 h2 _ => ?_, fun k r h1 => ?_⟩
  · have a1 := (List.getElem?_eq_some_iff.mp h1).1
    have a2 := (List.getElem?_eq_some_iff.mp h2).1
    simp only [List.length_cons, List.length_nil] at a1 a2
    omega
  · have a1 := (List.getElem?_eq_some_iff.mp h1).1
    simp only [List.length_cons, List.length_nil] at a1
    rw [show k = 0 by omega] at h1
    cases h1
    exact h
section XI
variable {p : Program} {l : Launch} {e : Env} {R : Room} {s : State} {m : MethodId} {args : Array Value} {below : List Frame} {meth : Method} {c : Code} {H : Heap} {locs : List Loc} {cells slots : Nat} {Q : State → Prop} {cc : ByteArray} {pc : Nat} {ls : Array Slot} {rest st0 : List Value} {D : va_G} {A : Nat → Prop} {ws : va_W} {ay : Nat → ClassId} {H0 : Heap}
theorem i_newI (hx : p.tables.exec = Jvm.exec) (hb : c.code = cc) (harr : (Cond.arrayClass .int).before args s = true) (hK : va_K D vwCl (tyl ay) s) (hP : va_P D vwCl ws H) (hD : va_D A ws) (hS : va_S A H0 H locs) (hA : ∀ q, H0.size ≤ q → A q) {n : Int32} (N : Nat) (hn : ¬ n < 0) (hN : n.toNatClampNeg = N) (hN2 : N ≤ 1000) (hc : cells + 1 ≤ R.cells) (hs : slots + N ≤ R.slots) (hd : decode cc pc = .ok (.newarray .int, 2))
    (kk : ∀ (q : Nat) (H1 : Heap), va_P D vwCl (ws ++ [(q, .inl (ay 0, N, .inl (fun _ => 0)))]) H1 → va_D A (ws ++ [(q, .inl (ay 0, N, .inl (fun _ => 0)))]) → va_S A H0 H1 locs → W p l e R s m args below meth c H1 locs (cells + 1) (slots + N) Q (F0 m (pc + 2) ls (.ref q :: rest))) : W p l e R s m args below meth c H locs cells slots Q (F0 m pc ls (.int n :: rest)) := by
  refine va_newa (a0 := (N, .inl (fun _ => 0))) hx hb (atype := .int) harr rfl hK hP hD hS hA (fun _ => rfl) hn hN (by show N * 4 ≤ _; omega) hc hs hd (fun q cA H1 hK1 hP1 hD1 hS1 => ?_)
  have e1 : s.vm.findClass ("[" ++ FieldType.int.toString) = some cA := (hK1.2 3 (cA, .int) rfl).2
  have e2 : s.vm.findClass ("[" ++ FieldType.int.toString) = some (ay 0) := (hK.2 0 (ay 0, .int) rfl).2
  have e3 : cA = ay 0 := Option.some.inj (e1.symm.trans e2)
  subst e3
  exact kk q H1 hP1 hD1 hS1
theorem i_newZ (hx : p.tables.exec = Jvm.exec) (hb : c.code = cc) (harr : (Cond.arrayClass .boolean).before args s = true) (hK : va_K D vwCl (tyl ay) s) (hP : va_P D vwCl ws H) (hD : va_D A ws) (hS : va_S A H0 H locs) (hA : ∀ q, H0.size ≤ q → A q) {n : Int32} (N : Nat) (hn : ¬ n < 0) (hN : n.toNatClampNeg = N) (hN2 : N ≤ 1000) (hc : cells + 1 ≤ R.cells) (hs : slots + N ≤ R.slots) (hd : decode cc pc = .ok (.newarray .boolean, 2))
    (kk : ∀ (q : Nat) (H1 : Heap), va_P D vwCl (ws ++ [(q, .inl (ay 1, N, .inl (fun _ => 0)))]) H1 → va_D A (ws ++ [(q, .inl (ay 1, N, .inl (fun _ => 0)))]) → va_S A H0 H1 locs → W p l e R s m args below meth c H1 locs (cells + 1) (slots + N) Q (F0 m (pc + 2) ls (.ref q :: rest))) : W p l e R s m args below meth c H locs cells slots Q (F0 m pc ls (.int n :: rest)) := by
  refine va_newa (a0 := (N, .inl (fun _ => 0))) hx hb (atype := .boolean) harr rfl hK hP hD hS hA (fun _ => rfl) hn hN (by show N * 1 ≤ _; omega) hc hs hd (fun q cA H1 hK1 hP1 hD1 hS1 => ?_)
  have e1 : s.vm.findClass ("[" ++ FieldType.boolean.toString) = some cA := (hK1.2 3 (cA, .boolean) rfl).2
  have e2 : s.vm.findClass ("[" ++ FieldType.boolean.toString) = some (ay 1) := (hK.2 1 (ay 1, .boolean) rfl).2
  have e3 : cA = ay 1 := Option.some.inj (e1.symm.trans e2)
  subst e3
  exact kk q H1 hP1 hD1 hS1
theorem i_newQ (hx : p.tables.exec = Jvm.exec) (hb : c.code = cc) {own : String} {index : Nat} (hown : s.vm.findClass own = some m.cls) (hcl : (Cond.classLink own index "HarrowSaid$State").before args s = true) (hov : (Cond.arrayOver (.object "HarrowSaid$State")).before args s = true) (hK : va_K D vwCl (tyl ay) s) (hP : va_P D vwCl ws H) (hD : va_D A ws) (hS : va_S A H0 H locs) (hA : ∀ q, H0.size ≤ q → A q) {n : Int32} (N : Nat) (hn : ¬ n < 0) (hN : n.toNatClampNeg = N) (hN2 : N ≤ 1000) (hc : cells + 1 ≤ R.cells) (hs : slots + N ≤ R.slots) (hd : decode cc pc = .ok (.anewarray index, 3))
    (kk : ∀ (q : Nat) (H1 : Heap), va_P D vwCl (ws ++ [(q, .inl (ay 2, N, .inr (.inr (.inr (.inr (fun _ => none))))))]) H1 → va_D A (ws ++ [(q, .inl (ay 2, N, .inr (.inr (.inr (.inr (fun _ => none))))))]) → va_S A H0 H1 locs → W p l e R s m args below meth c H1 locs (cells + 1) (slots + N) Q (F0 m (pc + 3) ls (.ref q :: rest))) : W p l e R s m args below meth c H locs cells slots Q (F0 m pc ls (.int n :: rest)) := by
  refine va_newq hx hb hown hcl (va_AO.of hov) hK hP hD hS hA hn hN (by omega) hc hs hd (fun q cA H1 hK1 hP1 hD1 hS1 => ?_)
  obtain ⟨-, -, -, -, -, e1⟩ := (hK1.2 3 (cA, .object "HarrowSaid$State") rfl).2
  obtain ⟨-, -, -, -, -, e2⟩ := (hK.2 2 (ay 2, .object "HarrowSaid$State") rfl).2
  have e3 : cA = ay 2 := Option.some.inj (e1.symm.trans e2)
  subst e3
  exact kk q H1 hP1 hD1 hS1
/-- behind a constructor's call -/
theorem i_go {mc ms : Nat} {a : Array Value} {B : va_W → Prop} {wc wr : va_W} (hr : va_Run p l e R s m args below meth c H locs cells slots mc ms (F0 m pc ls st0) rest (ciQ D B (va_A wc H.size) a) (va_A wc H.size)) (hP : va_P D vwCl ws H) (hD : va_D A ws) (hS : va_S A H0 H locs) (hA : ∀ q, H0.size ≤ q → A q) (isC isR : List Nat) (hC : isC.map (fun i => ws[i]?) = wc.map some) (hR : isR.map (fun i => ws[i]?) = wr.map some) (hn : va_nd isR = true) (hdis : ∀ i ∈ isR, i ∉ isC)
    (kk : ∀ (ws1 : va_W) (H1 : Heap) (locs1 : List Loc), B ws1 → va_P D vwCl (wr ++ ws1) H1 → va_D A (wr ++ ws1) → va_S A H0 H1 locs1 → W p l e R s m args below meth c H1 locs1 (cells + mc) (slots + ms) Q (F0 m (pc + 3) ls rest)) : W p l e R s m args below meth c H locs cells slots Q (F0 m pc ls st0) := by
  have hF := va_free (wc := wc) hD hS hA isC hC
  intro T hT X
  obtain ⟨v, st₀, t, T', L, h0, X', hL, e1, e2, ⟨⟨hv, ws1, hB, hP1, hD1⟩, hz, hk⟩, sg⟩ := hr T hT X
  cases hv
  rw [h0] at hz hk
  rw [← e1] at hz hk hP1
  obtain ⟨hPj, hDj⟩ := va_join (wr := wr) (w1 := ws1) hP hD isC isR hC hR hn hdis hk hF hP1 hD1
  obtain ⟨t2, a1, b1⟩ := kk ws1 T'.heap (locs ++ L) hB hPj hDj ⟨Nat.le_trans hS.1 hz, fun q h1 h2 => by rw [hk q (Nat.lt_of_lt_of_le h1 hS.1) (fun z => h2 (hF q z))]; exact hS.2.1 q h1 h2, fun q hq => by
      rcases List.mem_append.mp hq with h | h
      · exact hS.2.2 q h
      · exact hF _ (hL q h)⟩ T' rfl X'
  exact ⟨t2, sg t2 a1, b1⟩
/-- a call of ours whose world is all that stands -/
theorem i_cS {w : Kw} {y : MethodName} {bytes : ByteArray} {own : String} {nL maxL index n fr' lo' : Nat} {rt : Option FieldType} {As : List Value} {h : xI} {g : xJ} {post : Option Value → xI → xJ → Prop} (hx : p.tables.exec = Jvm.exec) (hb : c.code = cc) (hml : c.maxLocals = nL) (hown : s.vm.findClass own = some m.cls) (hts : ∀ x ∈ gW, x.before args s = true) (hEe : wE w = nE) (hE : nE s) (hM : Ct l w y bytes maxL rt fr' lo' As h g post) (hk : kS own index y bytes maxL rt n) (hf : fr' + 1 ≤ R.frames) (hq : 8 + (maxL + 11) + lo' ≤ R.locals) (hn : As.length = n) (hs : As.reverse ++ rest = st0) (hc : (rest.map fun v => v.category).sum ≤ 8) (hd : decode cc pc = .ok (.invokestatic index, 3)) (hls : ls.size = nL) (hcs : cells ≤ R.cells) (hss : slots ≤ R.slots) (hK : va_K (wD w) vwCl (tyl (wY_ w)) s) (hP : va_P (wD w) vwCl (wW w h g) H) (hS : va_S A H0 H locs) (hAA : ∀ q, Aw w q → A q)
    (kk : ∀ v h' g' H1 locs1, post v h' g' → va_P (wD w) vwCl (wW w h' g') H1 → va_S A H0 H1 locs1 → W p l e R s m args below meth c H1 locs1 cells slots Q (F0 m (pc + 3) ls (v.toList ++ rest))) : W p l e R s m args below meth c H locs cells slots Q (F0 m pc ls st0) := by
  obtain ⟨k1, k2, k3, k4, k5⟩ := hk
  subst hs
  have hp : PreS s H (Pq w As h g) As := by
    refine ⟨fun a U g mk q => ?_, fun U hU hW => ?_⟩
    · obtain ⟨q0, qP, qK, qE⟩ := q
      exact ⟨q0, qP, va_K.moved (u := U) (U := U.calling g mk a) (Vm.Alike.refl U.vm) qK, by rw [hEe] at qE ⊢; exact nE_same (U := U) (V := U.calling g mk a) rfl qE⟩
    · exact ⟨rfl, by rw [hU]; exact hP, va_K.moved hW.alike hK, by rw [hEe]; exact nE_warm hW hE⟩
  have hr := va_runS (Ts := gW) (own := own) (cc := cc) (nL := nL) (n := n) (bytes := bytes) (maxL := maxL) (ret := rt) (As := As) (rest := rest) (index := index) (g := F0 m pc ls (As.reverse ++ rest)) (below := below) (locs := locs) (cells := cells) (slots := slots) (e := e) (meth := meth) ⟨hx, hb, hml, hown, hts⟩ hM ⟨callB_of n hts (gL k1) rfl rfl rfl (hts _ k3) (hts _ k4) k5 ⟨hf, hq⟩, hts _ k2⟩ hp rfl hn hls rfl (lv_room hc) hd ⟨hcs, hss⟩
  intro T hT X
  obtain ⟨v, st₀, t, T', L, h0, X', hL, e1, e2, ⟨⟨v', h', g', hv, hpo, hb2⟩, hz, hk2⟩, sg⟩ := hr T hT X
  cases hv
  rw [h0] at hz hk2
  obtain ⟨t2, a1, b1⟩ := kk v h' g' T'.heap (locs ++ L) hpo (by rw [e1]; exact hb2) ⟨Nat.le_trans hS.1 (by rw [e1]; exact hz), fun q h1 h2 => by rw [e1, hk2 q (Nat.lt_of_lt_of_le h1 hS.1) (fun z => h2 (hAA q z))]; exact hS.2.1 q h1 h2, fun q hq => by
      rcases List.mem_append.mp hq with h | h
      · exact hS.2.2 q h
      · exact hAA _ (hL q h)⟩ T' rfl X'
  exact ⟨t2, sg t2 a1, b1⟩
end XI
theorem nE_wOk {w : Kw} (hEe : wE w = nE) (hi : wIj w) : wOk w := by
  refine ⟨hi, fun s U h1 _ _ hW => ?_, fun U g mk a h1 => ?_, fun U h1 => ?_⟩
  · rw [hEe] at h1 ⊢; exact nE_warm hW h1
  · rw [hEe] at h1 ⊢; exact nE_same (U := U) (V := U.calling g mk a) rfl h1
  · rw [hEe] at h1; exact h1.1
