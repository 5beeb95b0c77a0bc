/-! OWN LAYER, 3: contracts, returns, calls -/
def Qp (w : Kw) (post : Option Value → xI → xJ → Prop) (A : Nat → Prop) : Array Value → State → Outcome → State → Prop := fun _ st oc t => (∃ (v : Option Value) (h' : xI) (g' : xJ), oc = .returned v ∧ post v h' g' ∧ va_P (wD w) vwCl (wW w h' g') t.heap) ∧ va_F A st t
def Pq (w : Kw) (As : List Value) (h : xI) (g : xJ) : Array Value → State → Prop := va_Pc As (fun U => va_P (wD w) vwCl (wW w h g) U.heap ∧ va_K (wD w) vwCl (tyl (wY_ w)) U ∧ wE w U)
/-- the contract of a method: at these arguments and this world it returns, and post tells its answer and the world behind it -/
def Ct (l : Launch) (w : Kw) (y : MethodName) (cc : ByteArray) (n : Nat) (r : Option FieldType) (fr lo : Nat) (As : List Value) (h : xI) (g : xJ) (post : Option Value → xI → xJ → Prop) : Prop :=
  Met l y (wY y cc n r) { frames := fr, cells := 0, slots := 0, locals := lo } (Pq w As h g) (Qp w post (Aw w)) 0 0 (Aw w)
def Zq (k : Kx) (w : Kw) (post : Option Value → xI → xJ → Prop) : State → Prop := match k with
  | (_, _, _, _, s, _, args, below, _, _, A, cells, slots) => MQ below (Qp w post A) args s cells slots A
def en0 : List Value → List (Option Value)
  | [] => []
  | v :: vs => if v.category = 2 then some v :: none :: en0 vs else some v :: en0 vs
def en (As : List Value) (n : Nat) : List (Option Value) := en0 As ++ List.replicate (n - (en0 As).length) none
theorem en0_args : ∀ (vs : List Value) (o i : Nat) (v : Value), (en0 vs)[i]? = some (some v) → (o + i, v) ∈ lv_args o vs
  | [], o, i, v, e => by simp [en0] at e
  | x :: vs, o, i, v, e => by
    simp only [en0, lv_args] at e ⊢
    split at e
    · rename_i hc
      match i with
      | 0 =>
        have : x = v := by simpa using e
        subst this
        exact List.mem_cons_self
      | 1 => simp at e
      | i + 2 =>
        have e2 : (en0 vs)[i]? = some (some v) := by simpa using e
        have := en0_args vs (o + 2) i v e2
        rw [if_pos hc]
        rw [show o + 2 + i = o + (i + 2) by omega] at this
        exact List.mem_cons_of_mem _ this
    · rename_i hc
      match i with
      | 0 =>
        have : x = v := by simpa using e
        subst this
        exact List.mem_cons_self
      | i + 1 =>
        have e2 : (en0 vs)[i]? = some (some v) := by simpa using e
        have := en0_args vs (o + 1) i v e2
        rw [if_neg hc]
        rw [show o + 1 + i = o + (i + 1) by omega] at this
        exact List.mem_cons_of_mem _ this
theorem en0_len : ∀ (vs : List Value), (en0 vs).length = (lg_sl vs).length
  | [] => rfl
  | x :: vs => by
    have := en0_len vs
    simp only [en0, lg_sl, List.flatMap_cons] at this ⊢
    split <;> simp [this, lg_sl]
theorem en_lh {As : List Value} {n : Nat} {arr : Array Slot} (hn : (en0 As).length ≤ n) (H : lv_has arr n (lv_args 0 As)) : lh arr (en As n) := by
  obtain ⟨h1, h2, h3⟩ := H
  refine ⟨by simp [en]; omega, h2, fun i v e => ?_⟩
  rcases Nat.lt_or_ge i (en0 As).length with hi | hi
  · rw [en, List.getElem?_append_left hi] at e
    have := en0_args As 0 i v e
    rw [Nat.zero_add] at this
    exact h3 (i, v) this
  · rw [en, List.getElem?_append_right hi, List.getElem?_replicate] at e
    split at e
    · cases Option.some.inj e
    · cases e
theorem Ct_of {l : Launch} {w : Kw} {y : MethodName} {cc : ByteArray} {n : Nat} {r : Option FieldType} {fr lo : Nat} {As : List Value} {h : xI} {g : xJ} {post : Option Value → xI → xJ → Prop} {ls : List (Option Value)} (hy : plainName y.cls = true) (hw : wOk w) (hn : (en0 As).length ≤ n) (hls : en As n = ls)
    (body : ∀ k : Kx, k.2.1 = l → Cx k w cc y.cls n r fr lo → X k w (Zq k w post) 0 ls [] h g) : Ct l w y cc n r fr lo As h g post := by
  subst hls
  refine Met.ofW (cc := cc) (maxL := n) (ret := r) hy rfl ?_
  intro p e s m args below meth c s₁ B hml hv
  obtain ⟨rfl, hP, hK, hE⟩ := hv
  have hx := B.exec
  have hb := B.bytes
  have hr := B.returns
  have hts := atoms_spec (ws := wY y cc n r) B.pre
  have hown : s.vm.findClass y.cls = some m.cls := findClass_of_methodNamed B.named
  have hlocks := B.notSynchronized
  have hl := lv_entry As (n := n) (by rw [← en0_len]; exact hn)
  rw [lg_entry_eq]
  have hb2 := body (p, l, e, (headSpec (wY y cc n r) { frames := fr, cells := 0, slots := 0, locals := lo }).room, s, m, As.toArray, below, meth, c, Aw w, 0, 0) rfl
    ⟨hx, hb, hml, hown, fun x hx => hts x (List.mem_cons_of_mem _ hx), hr, hlocks, hK, hw.1, fun i hi => ⟨i, hi, rfl⟩, ⟨hw, hE, fun q _ h => h⟩, rfl, rfl, Nat.zero_le _, Nat.zero_le _⟩
  exact hb2 s.heap [] _ hP va_S.rf (en_lh hn hl)
section XC
variable {k : Kx} {w : Kw} {cc : ByteArray} {own : String} {nL : Nat} {ret : Option FieldType} {fr lo : Nat} {Z : State → Prop} {pc : Nat} {ls ls' : List (Option Value)} {st : List Value} {h : xI} {g : xJ} {post : Option Value → xI → xJ → Prop}
theorem X_iret (C : Cx k w cc own nL (some .int) fr lo) {v : Int32} (hd : decode cc pc = .ok (.ireturn, 1)) (hq : post (some (.int v)) h g) : X k w (Zq k w post) pc ls [.int v] h g := by
  obtain ⟨p, l, e, R, s, m, args, below, meth, c, A, cells, slots⟩ := k
  obtain ⟨hx, hb, hml, hown, hts, hr, hlk, hR⟩ := C
  intro H locs arr hP hS hl
  exact W.iret hx hb hr (fun t ht hW => ⟨⟨_, h, g, rfl, hq, by rw [ht]; exact hP⟩, hS.F ht⟩) hS.2.2 hd hlk
theorem X_zret (C : Cx k w cc own nL (some .boolean) fr lo) {v : Int32} (hd : decode cc pc = .ok (.ireturn, 1)) (hn : narrow .boolean (.int v) = .int v) (hq : post (some (.int v)) h g) : X k w (Zq k w post) pc ls [.int v] h g := by
  obtain ⟨p, l, e, R, s, m, args, below, meth, c, A, cells, slots⟩ := k
  obtain ⟨hx, hb, hml, hown, hts, hr, hlk, hR⟩ := C
  intro H locs arr hP hS hl
  exact W.zret hx hb hr hn (fun t ht hW => ⟨⟨_, h, g, rfl, hq, by rw [ht]; exact hP⟩, hS.F ht⟩) hS.2.2 hd hlk
theorem X_lret (C : Cx k w cc own nL (some .long) fr lo) {v : Int64} (hd : decode cc pc = .ok (.lreturn, 1)) (hq : post (some (.long v)) h g) : X k w (Zq k w post) pc ls [.long v] h g := by
  obtain ⟨p, l, e, R, s, m, args, below, meth, c, A, cells, slots⟩ := k
  obtain ⟨hx, hb, hml, hown, hts, hr, hlk, hR⟩ := C
  intro H locs arr hP hS hl
  exact W.lret hx hb hr (fun t ht hW => ⟨⟨_, h, g, rfl, hq, by rw [ht]; exact hP⟩, hS.F ht⟩) hS.2.2 hd hlk
theorem X_vret (C : Cx k w cc own nL none fr lo) (hd : decode cc pc = .ok (.return_, 1)) (hq : post none h g) : X k w (Zq k w post) pc ls [] h g := by
  obtain ⟨p, l, e, R, s, m, args, below, meth, c, A, cells, slots⟩ := k
  obtain ⟨hx, hb, hml, hown, hts, hr, hlk, hR⟩ := C
  intro H locs arr hP hS hl
  exact W.vret hx hb hr (fun t ht hW => ⟨⟨_, h, g, rfl, hq, by rw [ht]; exact hP⟩, hS.F ht⟩) hS.2.2 hd hlk
/-- behind a call -/
theorem xc_go {p : Program} {l : Launch} {e : Env} {R : Room} {s : State} {m : MethodId} {args : Array Value} {below : List Frame} {meth : Method} {c : Code} {A : Nat → Prop} {cells slots : Nat} {H : Heap} {locs : List Loc} {arr : Array Slot} {st0 : List Value} {a : Array Value}
    (hr : va_Run p l e R s m args below meth c H locs cells slots 0 0 (F0 m pc arr st0) st (Qp w post (Aw w) a) (Aw w)) (hS : va_S A s.heap H locs) (hl : lh arr ls) (hA : ∀ i, i < wN w → A (wA w i))
    (kk : ∀ v h' g', post v h' g' → X (p, l, e, R, s, m, args, below, meth, c, A, cells, slots) w Z (pc + 3) ls (v.toList ++ st) h' g') : W p l e R s m args below meth c H locs cells slots Z (F0 m pc arr st0) := by
  have hAA : ∀ q, Aw w q → A q := fun q hq => by obtain ⟨i, hi, rfl⟩ := hq; exact hA i hi
  intro T hT X
  obtain ⟨v, st₀, t, T', L, h0, X', hL, e1, e2, ⟨⟨v', h', g', hv, hp, hb⟩, hz, hk⟩, sg⟩ := hr T hT X
  cases hv
  rw [h0] at hz hk
  have hS' : va_S A s.heap T'.heap (locs ++ L) := ⟨Nat.le_trans hS.1 (by rw [e1]; exact hz), fun q h1 h2 => by rw [e1, hk q (Nat.lt_of_lt_of_le h1 hS.1) (fun z => h2 (hAA q z))]; exact hS.2.1 q h1 h2, fun q hq => by
      rcases List.mem_append.mp hq with h | h
      · exact hS.2.2 q h
      · exact hAA _ (hL q h)⟩
  obtain ⟨t2, a1, b1⟩ := kk v h' g' hp T'.heap (locs ++ L) arr (by rw [e1]; exact hb) hS' hl T' rfl X'
  exact ⟨t2, sg t2 a1, b1⟩
theorem xc_pre {p : Program} {l : Launch} {e : Env} {R : Room} {s : State} {m : MethodId} {args : Array Value} {below : List Frame} {meth : Method} {c : Code} {A : Nat → Prop} {cells slots : Nat} {H : Heap} {locs : List Loc} {As : List Value}
    (C : Cx (p, l, e, R, s, m, args, below, meth, c, A, cells, slots) w cc own nL ret fr lo) (hP : va_P (wD w) vwCl (wW w h g) H) (hS : va_S A s.heap H locs) : PreS s H (Pq w As h g) As := by
  obtain ⟨hx, hb, hml, hown, hts, hr, hlk, hK, hij, hA, ⟨hok, hE, hAw⟩, hfr, hlo, hcs, hss⟩ := C
  refine ⟨fun a U g mk q => ?_, fun U hU hW => ?_⟩
  · obtain ⟨q0, qP, qK, qE⟩ := q
    exact ⟨q0, qP, va_K.moved (u := U) (U := U.calling g mk a) (Vm.Alike.refl U.vm) qK, hok.2.2.1 U g mk a qE⟩
  · refine ⟨rfl, by rw [hU]; exact hP, va_K.moved hW.alike hK, hok.2.1 s U hE (by rw [hU]; exact hS.1) (fun q h1 h2 => ?_) hW⟩
    rw [hU]
    exact hS.2.1 q h1 (fun z => h2 (hAw q h1 z))
theorem X_cS (C : Cx k w cc own nL ret fr lo) {y : MethodName} {bytes : ByteArray} {maxL index n fr' lo' : Nat} {rt : Option FieldType} {As st0 : List Value} (hM : Ct k.2.1 w y bytes maxL rt fr' lo' As h g post) (hk : kS own index y bytes maxL rt n) (hf : fr' + 1 ≤ fr) (hq : 8 + (maxL + 11) + lo' ≤ lo) (hn : As.length = n) (hs : As.reverse ++ st = st0) (hc : (st.map fun v => v.category).sum ≤ 8) (hd : decode cc pc = .ok (.invokestatic index, 3)) (hls : ls.length = nL)
    (kk : ∀ v h' g', post v h' g' → X k w Z (pc + 3) ls (v.toList ++ st) h' g') : X k w Z pc ls st0 h g := by
  obtain ⟨p, l, e, R, s, m, args, below, meth, c, A, cells, slots⟩ := k
  intro H locs arr hP hS hl
  have hp := xc_pre (As := As) C hP hS
  obtain ⟨hx, hb, hml, hown, hts, hr, hlk, hK, hij, hA, hO, hfr, hlo, hcs, hss⟩ := C
  obtain ⟨k1, k2, k3, k4, k5⟩ := hk
  subst hs
  refine xc_go (va_runS (Ts := gW) (own := own) (cc := cc) (nL := nL) (n := n) (bytes := bytes) (maxL := maxL) (ret := rt) (As := As) (rest := st) (index := index) ⟨hx, hb, hml, hown, hts⟩ hM ⟨callB_of n hts (gL k1) rfl rfl rfl (hts _ k3) (hts _ k4) k5 ⟨by rw [hfr]; exact hf, by rw [hlo]; exact hq⟩, hts _ k2⟩ hp rfl hn (by rw [← hls]; exact hl.1) rfl (lv_room hc) hd ⟨hcs, hss⟩) hS hl hA kk
theorem X_cN (C : Cx k w cc own nL ret fr lo) {y : MethodName} {bytes : ByteArray} {maxL index n fr' lo' : Nat} {host : String} {rt : Option FieldType} {As st0 : List Value} (hM : Ct k.2.1 w y bytes maxL rt fr' lo' As h g post) (hk : kN own index host y bytes maxL rt n) (hf : fr' + 1 ≤ fr) (hq : 8 + (maxL + 11) + lo' ≤ lo) (hn : As.length = n) (hs : As.reverse ++ st = st0) (hc : (st.map fun v => v.category).sum ≤ 8) (hd : decode cc pc = .ok (.invokestatic index, 3)) (hls : ls.length = nL)
    (kk : ∀ v h' g', post v h' g' → X k w Z (pc + 3) ls (v.toList ++ st) h' g') : X k w Z pc ls st0 h g := by
  obtain ⟨p, l, e, R, s, m, args, below, meth, c, A, cells, slots⟩ := k
  intro H locs arr hP hS hl
  have hp := xc_pre (As := As) C hP hS
  obtain ⟨hx, hb, hml, hown, hts, hr, hlk, hK, hij, hA, ⟨hok, hE, hAw⟩, hfr, hlo, hcs, hss⟩ := C
  obtain ⟨k1, k2, k3, k4, k5⟩ := hk
  subst hs
  refine xc_go (va_runSN (Ts := gW) (own := own) (host := host) (cc := cc) (nL := nL) (n := n) (bytes := bytes) (maxL := maxL) (ret := rt) (As := As) (rest := st) (index := index) ⟨hx, hb, hml, hown, hts⟩ hM ⟨va_cnB n hts (gL k1) rfl rfl rfl (hok.2.2.2 s hE _ k4) (hts _ k3) k5 ⟨by rw [hfr]; exact hf, by rw [hlo]; exact hq⟩, hts _ k2, trivial⟩ hp rfl hn (by rw [← hls]; exact hl.1) rfl (lv_room hc) hd ⟨hcs, hss⟩) hS hl hA kk
theorem X_cV (C : Cx k w cc own nL ret fr lo) {y : MethodName} {bytes : ByteArray} {maxL index n fr' lo' ci : Nat} {q0 : vw_C} {fs : List Nat} {rt : Option FieldType} {As st0 : List Value} (p0 : Nat) (hp0 : p0 < wN w) (hsh : wS w p0 = .inl (ci, fs)) (hci : vwCl[ci]? = some q0) (hM : Ct k.2.1 w y bytes maxL rt fr' lo' (.ref (wA w p0) :: As) h g post) (hk : kV own index q0.1 y bytes maxL rt n) (hf : fr' + 1 ≤ fr) (hq : 8 + (maxL + 11) + lo' ≤ lo) (hn : As.length = n) (hs : As.reverse ++ .ref (wA w p0) :: st = st0) (hc : (st.map fun v => v.category).sum ≤ 8) (hd : decode cc pc = .ok (.invokevirtual index, 3)) (hls : ls.length = nL)
    (kk : ∀ v h' g', post v h' g' → X k w Z (pc + 3) ls (v.toList ++ st) h' g') : X k w Z pc ls st0 h g := by
  obtain ⟨p, l, e, R, s, m, args, below, meth, c, A, cells, slots⟩ := k
  intro H locs arr hP hS hl
  have hp := xc_pre (As := .ref (wA w p0) :: As) C hP hS
  obtain ⟨hx, hb, hml, hown, hts, hr, hlk, hK, hij, hA, hO, hfr, hlo, hcs, hss⟩ := C
  obtain ⟨k1, k2, k2b, k3, k4, k5⟩ := hk
  subst hs
  have he : (wW w h g)[p0]? = some (wA w p0, .inr (ci, fl (wA w) h g p0 0 fs)) := by
    unfold wW; rw [wl_get hp0, hsh]; rfl
  refine xc_go (va_runV (Ts := gW) (own := own) (C := q0.1) (cc := cc) (nL := nL) (n := n) (bytes := bytes) (maxL := maxL) (ret := rt) (As := As) (rest := st) (index := index) ⟨hx, hb, hml, hown, hts⟩ hM ⟨callB_of n hts (gL k1) rfl rfl rfl (hts _ k3) (hts _ k4) k5 ⟨by rw [hfr]; exact hf, by rw [hlo]; exact hq⟩, hts _ k2, hts _ k2b⟩ ⟨hp.1, va_recv hK hP hci he, hp.2⟩ rfl hn (by rw [← hls]; exact hl.1) rfl (lv_room hc) hd ⟨hcs, hss⟩) hS hl hA kk
theorem X_eq {ls' : List (Option Value)} {st' : List Value} {h' : xI} {g' : xJ} (el : ls = ls') (es : st = st') (eh : h = h') (eg : g = g') (kk : X k w Z pc ls' st' h' g') : X k w Z pc ls st h g := by
  subst el; subst es; subst eh; subst eg; exact kk
end XC
def px (v0 : Option Value) (h0 : xI) (g0 : xJ) : Option Value → xI → xJ → Prop := fun v h g => v0 = v ∧ h0 = h ∧ g0 = g
