/-! OWN LAYER, 2: the judgement X (a method's frame at a program counter, locals by their places, the stack, the world by places) and its rules -/
abbrev Kx : Type := Program × Launch × Env × Room × State × MethodId × Array Value × List Frame × Method × Code × (Nat → Prop) × Nat × Nat
abbrev Kw : Type := va_G × (Nat → ClassId) × (Nat → xS) × Nat × (Nat → Nat) × (State → Prop)
def wD (w : Kw) : va_G := w.1
def wY_ (w : Kw) : Nat → ClassId := w.2.1
def wS (w : Kw) : Nat → xS := w.2.2.1
def wN (w : Kw) : Nat := w.2.2.2.1
def wA (w : Kw) : Nat → Nat := w.2.2.2.2.1
def wE (w : Kw) : State → Prop := w.2.2.2.2.2
def wW (w : Kw) (h : xI) (g : xJ) : va_W := wl (wS w) (wN w) (wY_ w) (wA w) h g
def tyl (ay : Nat → ClassId) : List (ClassId × FieldType) := [(ay 0, .int), (ay 1, .boolean), (ay 2, .object "HarrowSaid$State")]
def wIj (w : Kw) : Prop := ∀ i j, i < wN w → j < wN w → wA w i = wA w j → i = j
def Aw (w : Kw) : Nat → Prop := fun q => ∃ i, i < wN w ∧ q = wA w i
/-- the world's own facts: its addresses are apart; what E says stays while nothing but the world is written -/
def wOk (w : Kw) : Prop := wIj w ∧ (∀ s U : State, wE w s → s.heap.size ≤ U.heap.size → (∀ q, q < s.heap.size → ¬ Aw w q → U.heap[q]? = s.heap[q]?) → s.WarmedH U.vm → wE w U) ∧ (∀ (U : State) (g : JFrame) (mk : MethodId) (a : Array Value), wE w U → wE w (U.calling g mk a)) ∧ ∀ U : State, wE w U → ∀ x ∈ nW, va_Nw x U
/-- locals: by place what is known of each -/
def lh (arr : Array Slot) (ls : List (Option Value)) : Prop := arr.size = ls.length ∧ lv_wf arr ∧ ∀ (i : Nat) (v : Value), ls[i]? = some (some v) → arr[i]? = some (.val v)
def kl (ls : List (Option Value)) : List (Nat × Value) := (List.range ls.length).filterMap (fun i => match ls[i]? with | some (some v) => some (i, v) | _ => none)
theorem kl_mem {ls : List (Option Value)} {q : Nat × Value} : q ∈ kl ls ↔ ls[q.1]? = some (some q.2) := by
  obtain ⟨i, v⟩ := q
  simp only [kl, List.mem_filterMap, List.mem_range]
  constructor
  · rintro ⟨j, hj, e⟩
    split at e
    · rename_i v' hv
      have := Option.some.inj e
      cases this
      exact hv
    · cases e
  · intro e
    have hi : i < ls.length := (List.getElem?_eq_some_iff.mp e).1
    exact ⟨i, hi, by rw [e]⟩
theorem lh_iff {arr : Array Slot} {ls : List (Option Value)} : lh arr ls ↔ lv_has arr ls.length (kl ls) := by
  constructor
  · rintro ⟨h1, h2, h3⟩
    exact ⟨h1, h2, fun q hq => h3 q.1 q.2 (kl_mem.mp hq)⟩
  · rintro ⟨h1, h2, h3⟩
    exact ⟨h1, h2, fun i v e => h3 (i, v) (kl_mem.mpr e)⟩
def lg2 : Option (Option Value) → Bool
  | some (some (.long _)) => true
  | some (some (.double _)) => true
  | _ => false
/-- a store of one word, of two words -/
def st0 (ls : List (Option Value)) : Nat → List (Option Value)
  | 0 => ls
  | i + 1 => if lg2 ls[i]? = true then ls.set i none else ls
def st1 (ls : List (Option Value)) (i : Nat) (v : Value) : List (Option Value) := (st0 ls i).set i (some v)
def st2 (ls : List (Option Value)) (i : Nat) (v : Value) : List (Option Value) := ((st0 ls i).set i (some v)).set (i + 1) none
theorem st0_len (ls : List (Option Value)) (i : Nat) : (st0 ls i).length = ls.length := by
  cases i with
  | zero => rfl
  | succ i => simp only [st0]; split <;> simp
theorem lg2_cat {v : Value} : lg2 (some (some v)) = false → ¬ v.category = 2 := by
  cases v <;> simp [lg2, Value.category]
theorem st0_get {ls : List (Option Value)} {i j : Nat} {v : Value} (hj : j ≠ i) (e : (st0 ls i)[j]? = some (some v)) : ls[j]? = some (some v) ∧ ¬ (j + 1 = i ∧ v.category = 2) := by
  cases i with
  | zero => exact ⟨e, fun q => by omega⟩
  | succ i =>
    simp only [st0] at e
    split at e
    · rename_i hb
      rw [List.getElem?_set] at e
      split at e
      · split at e
        · cases Option.some.inj e
        · cases e
      · rename_i hne
        exact ⟨e, fun q => hne (by omega)⟩
    · rename_i hb
      refine ⟨e, fun q => ?_⟩
      have : j = i := by omega
      subst this
      rw [e] at hb
      exact lg2_cat (by simpa using hb) q.2
theorem lh_st1 {arr : Array Slot} {ls ls' : List (Option Value)} {i nL : Nat} {v : Value} (hn : nL = ls.length) (hi : i < nL) (hs : st1 ls i v = ls')
    (H : lv_has arr nL ((i, v) :: (kl ls).filter (fun q => !(q.1 == i) && !(q.1 + 1 == i && q.2.category == 2)))) : lh arr ls' := by
  subst hs
  obtain ⟨h1, h2, h3⟩ := H
  refine ⟨by simp [st1, st0_len, h1, hn], h2, fun j x e => ?_⟩
  simp only [st1, List.getElem?_set] at e
  by_cases hj : i = j
  · subst hj
    simp only [if_true, st0_len] at e
    split at e
    · have := Option.some.inj (Option.some.inj e)
      subst this
      exact h3 (i, v) List.mem_cons_self
    · cases e
  · simp only [hj, if_false] at e
    obtain ⟨e1, e2⟩ := st0_get (fun q => hj q.symm) e
    refine h3 (j, x) (List.mem_cons_of_mem _ (List.mem_filter.mpr ⟨kl_mem.mpr e1, ?_⟩))
    have hj' : ¬ j = i := fun q => hj q.symm
    by_cases q : j + 1 = i
    · have q2 : ¬ x.category = 2 := fun z => e2 ⟨q, z⟩
      simp [hj', q2]
    · simp [hj', q]
theorem lh_st2 {arr : Array Slot} {ls ls' : List (Option Value)} {i nL : Nat} {v : Value} (hn : nL = ls.length) (hi : i + 1 < nL) (hs : st2 ls i v = ls')
    (H : lv_has arr nL ((i, v) :: (kl ls).filter (fun q => !(q.1 == i) && (!(q.1 == i + 1) && !(q.1 + 1 == i && q.2.category == 2))))) : lh arr ls' := by
  subst hs
  obtain ⟨h1, h2, h3⟩ := H
  refine ⟨by simp [st2, st0_len, h1, hn], h2, fun j x e => ?_⟩
  simp only [st2, List.getElem?_set] at e
  by_cases hj1 : i + 1 = j
  · simp only [hj1, if_true] at e
    split at e
    · cases Option.some.inj e
    · cases e
  · simp only [hj1, if_false] at e
    by_cases hj : i = j
    · subst hj
      simp only [if_true, st0_len] at e
      split at e
      · have := Option.some.inj (Option.some.inj e)
        subst this
        exact h3 (i, v) List.mem_cons_self
      · cases e
    · simp only [hj, if_false] at e
      obtain ⟨e1, e2⟩ := st0_get (fun q => hj q.symm) e
      refine h3 (j, x) (List.mem_cons_of_mem _ (List.mem_filter.mpr ⟨kl_mem.mpr e1, ?_⟩))
      have hj' : ¬ j = i := fun q => hj q.symm
      have hj1' : ¬ j = i + 1 := fun q => hj1 q.symm
      by_cases q : j + 1 = i
      · have q2 : ¬ x.category = 2 := fun z => e2 ⟨q, z⟩
        simp [hj', hj1', q2]
      · simp [hj', hj1', q]
/-- the frame's fixed facts -/
def Cx (k : Kx) (w : Kw) (cc : ByteArray) (own : String) (nL : Nat) (ret : Option FieldType) (fr lo : Nat) : Prop := match k with
  | (p, _, _, R, s, m, args, _, meth, c, A, cells, slots) => p.tables.exec = Jvm.exec ∧ c.code = cc ∧ c.maxLocals = nL ∧ s.vm.findClass own = some m.cls ∧ (∀ x ∈ gW, x.before args s = true) ∧ meth.sig.returnType = ret ∧ meth.locks = false ∧ va_K (wD w) vwCl (tyl (wY_ w)) s ∧ wIj w ∧ (∀ i, i < wN w → A (wA w i)) ∧ (wOk w ∧ wE w s ∧ ∀ q, q < s.heap.size → A q → Aw w q) ∧ R.frames = fr ∧ R.locals = lo ∧ cells ≤ R.cells ∧ slots ≤ R.slots
def X (k : Kx) (w : Kw) (Z : State → Prop) (pc : Nat) (ls : List (Option Value)) (st : List Value) (h : xI) (g : xJ) : Prop := match k with
  | (p, l, e, R, s, m, args, below, meth, c, A, cells, slots) => ∀ (H : Heap) (locs : List Loc) (arr : Array Slot), va_P (wD w) vwCl (wW w h g) H → va_S A s.heap H locs → lh arr ls → W p l e R s m args below meth c H locs cells slots Z (F0 m pc arr st)
theorem wl_D {w : Kw} {A : Nat → Prop} (hi : wIj w) (hA : ∀ i, i < wN w → A (wA w i)) (h : xI) (g : xJ) : va_D A (wW w h g) := by
  refine ⟨fun i j p q h1 h2 e => ?_, fun k q h1 => ?_⟩
  · obtain ⟨a1, a2⟩ := wl_inv h1
    obtain ⟨b1, b2⟩ := wl_inv h2
    subst a2; subst b2
    exact hi i j a1 b1 e
  · obtain ⟨a1, a2⟩ := wl_inv h1
    subst a2
    exact hA k a1
section XR
variable {k : Kx} {w : Kw} {cc : ByteArray} {own : String} {nL : Nat} {ret : Option FieldType} {fr lo : Nat} {Z : State → Prop} {pc : Nat} {ls ls' : List (Option Value)} {st : List Value} {h : xI} {g : xJ}

theorem X_iadd (C : Cx k w cc own nL ret fr lo) {x y : Int32} (hd : decode cc pc = .ok (.iadd, 1))  (kk : X k w Z (pc + 1) ls (.int (x + y) :: st) h g) : X k w Z pc ls (.int y :: .int x :: st) h g := by
  obtain ⟨p, l, e, R, s, m, args, below, meth, c, A, cells, slots⟩ := k
  obtain ⟨hx, hb, hml, hown, hts, hr, hlk, hK, hij, hA, hR⟩ := C
  intro H locs arr hP hS hl
  exact lv_iadd hx hb hd (kk H locs arr hP hS hl)
theorem X_isub (C : Cx k w cc own nL ret fr lo) {x y : Int32} (hd : decode cc pc = .ok (.isub, 1))  (kk : X k w Z (pc + 1) ls (.int (x - y) :: st) h g) : X k w Z pc ls (.int y :: .int x :: st) h g := by
  obtain ⟨p, l, e, R, s, m, args, below, meth, c, A, cells, slots⟩ := k
  obtain ⟨hx, hb, hml, hown, hts, hr, hlk, hK, hij, hA, hR⟩ := C
  intro H locs arr hP hS hl
  exact lv_isub hx hb hd (kk H locs arr hP hS hl)
theorem X_imul (C : Cx k w cc own nL ret fr lo) {x y : Int32} (hd : decode cc pc = .ok (.imul, 1))  (kk : X k w Z (pc + 1) ls (.int (x * y) :: st) h g) : X k w Z pc ls (.int y :: .int x :: st) h g := by
  obtain ⟨p, l, e, R, s, m, args, below, meth, c, A, cells, slots⟩ := k
  obtain ⟨hx, hb, hml, hown, hts, hr, hlk, hK, hij, hA, hR⟩ := C
  intro H locs arr hP hS hl
  exact lv_imul hx hb hd (kk H locs arr hP hS hl)
theorem X_iand (C : Cx k w cc own nL ret fr lo) {x y : Int32} (hd : decode cc pc = .ok (.iand, 1))  (kk : X k w Z (pc + 1) ls (.int (x &&& y) :: st) h g) : X k w Z pc ls (.int y :: .int x :: st) h g := by
  obtain ⟨p, l, e, R, s, m, args, below, meth, c, A, cells, slots⟩ := k
  obtain ⟨hx, hb, hml, hown, hts, hr, hlk, hK, hij, hA, hR⟩ := C
  intro H locs arr hP hS hl
  exact lv_iand hx hb hd (kk H locs arr hP hS hl)
theorem X_ior (C : Cx k w cc own nL ret fr lo) {x y : Int32} (hd : decode cc pc = .ok (.ior, 1))  (kk : X k w Z (pc + 1) ls (.int (x ||| y) :: st) h g) : X k w Z pc ls (.int y :: .int x :: st) h g := by
  obtain ⟨p, l, e, R, s, m, args, below, meth, c, A, cells, slots⟩ := k
  obtain ⟨hx, hb, hml, hown, hts, hr, hlk, hK, hij, hA, hR⟩ := C
  intro H locs arr hP hS hl
  exact lv_ior hx hb hd (kk H locs arr hP hS hl)
theorem X_ixor (C : Cx k w cc own nL ret fr lo) {x y : Int32} (hd : decode cc pc = .ok (.ixor, 1))  (kk : X k w Z (pc + 1) ls (.int (x ^^^ y) :: st) h g) : X k w Z pc ls (.int y :: .int x :: st) h g := by
  obtain ⟨p, l, e, R, s, m, args, below, meth, c, A, cells, slots⟩ := k
  obtain ⟨hx, hb, hml, hown, hts, hr, hlk, hK, hij, hA, hR⟩ := C
  intro H locs arr hP hS hl
  exact lv_ixor hx hb hd (kk H locs arr hP hS hl)
theorem X_ishl (C : Cx k w cc own nL ret fr lo) {x y : Int32} (hd : decode cc pc = .ok (.ishl, 1))  (kk : X k w Z (pc + 1) ls (.int (x <<< (y &&& 31)) :: st) h g) : X k w Z pc ls (.int y :: .int x :: st) h g := by
  obtain ⟨p, l, e, R, s, m, args, below, meth, c, A, cells, slots⟩ := k
  obtain ⟨hx, hb, hml, hown, hts, hr, hlk, hK, hij, hA, hR⟩ := C
  intro H locs arr hP hS hl
  exact lv_ishl hx hb hd (kk H locs arr hP hS hl)
theorem X_ishr (C : Cx k w cc own nL ret fr lo) {x y : Int32} (hd : decode cc pc = .ok (.ishr, 1))  (kk : X k w Z (pc + 1) ls (.int (x >>> (y &&& 31)) :: st) h g) : X k w Z pc ls (.int y :: .int x :: st) h g := by
  obtain ⟨p, l, e, R, s, m, args, below, meth, c, A, cells, slots⟩ := k
  obtain ⟨hx, hb, hml, hown, hts, hr, hlk, hK, hij, hA, hR⟩ := C
  intro H locs arr hP hS hl
  exact lv_ishr hx hb hd (kk H locs arr hP hS hl)
theorem X_idiv (C : Cx k w cc own nL ret fr lo) {x y : Int32} (hd : decode cc pc = .ok (.idiv, 1)) (hne : ¬ y = 0) (kk : X k w Z (pc + 1) ls (.int (x / y) :: st) h g) : X k w Z pc ls (.int y :: .int x :: st) h g := by
  obtain ⟨p, l, e, R, s, m, args, below, meth, c, A, cells, slots⟩ := k
  obtain ⟨hx, hb, hml, hown, hts, hr, hlk, hK, hij, hA, hR⟩ := C
  intro H locs arr hP hS hl
  exact lv_idiv hx hb hd hne (kk H locs arr hP hS hl)
theorem X_irem (C : Cx k w cc own nL ret fr lo) {x y : Int32} (hd : decode cc pc = .ok (.irem, 1)) (hne : ¬ y = 0) (kk : X k w Z (pc + 1) ls (.int (x - x / y * y) :: st) h g) : X k w Z pc ls (.int y :: .int x :: st) h g := by
  obtain ⟨p, l, e, R, s, m, args, below, meth, c, A, cells, slots⟩ := k
  obtain ⟨hx, hb, hml, hown, hts, hr, hlk, hK, hij, hA, hR⟩ := C
  intro H locs arr hP hS hl
  exact lv_irem hx hb hd hne (kk H locs arr hP hS hl)
theorem X_ladd (C : Cx k w cc own nL ret fr lo) {x y : Int64} (hd : decode cc pc = .ok (.ladd, 1))  (kk : X k w Z (pc + 1) ls (.long (x + y) :: st) h g) : X k w Z pc ls (.long y :: .long x :: st) h g := by
  obtain ⟨p, l, e, R, s, m, args, below, meth, c, A, cells, slots⟩ := k
  obtain ⟨hx, hb, hml, hown, hts, hr, hlk, hK, hij, hA, hR⟩ := C
  intro H locs arr hP hS hl
  exact lv_ladd hx hb hd (kk H locs arr hP hS hl)
theorem X_lsub (C : Cx k w cc own nL ret fr lo) {x y : Int64} (hd : decode cc pc = .ok (.lsub, 1))  (kk : X k w Z (pc + 1) ls (.long (x - y) :: st) h g) : X k w Z pc ls (.long y :: .long x :: st) h g := by
  obtain ⟨p, l, e, R, s, m, args, below, meth, c, A, cells, slots⟩ := k
  obtain ⟨hx, hb, hml, hown, hts, hr, hlk, hK, hij, hA, hR⟩ := C
  intro H locs arr hP hS hl
  exact lv_lsub hx hb hd (kk H locs arr hP hS hl)
theorem X_lmul (C : Cx k w cc own nL ret fr lo) {x y : Int64} (hd : decode cc pc = .ok (.lmul, 1))  (kk : X k w Z (pc + 1) ls (.long (x * y) :: st) h g) : X k w Z pc ls (.long y :: .long x :: st) h g := by
  obtain ⟨p, l, e, R, s, m, args, below, meth, c, A, cells, slots⟩ := k
  obtain ⟨hx, hb, hml, hown, hts, hr, hlk, hK, hij, hA, hR⟩ := C
  intro H locs arr hP hS hl
  exact lv_lmul hx hb hd (kk H locs arr hP hS hl)
theorem X_land (C : Cx k w cc own nL ret fr lo) {x y : Int64} (hd : decode cc pc = .ok (.land, 1))  (kk : X k w Z (pc + 1) ls (.long (x &&& y) :: st) h g) : X k w Z pc ls (.long y :: .long x :: st) h g := by
  obtain ⟨p, l, e, R, s, m, args, below, meth, c, A, cells, slots⟩ := k
  obtain ⟨hx, hb, hml, hown, hts, hr, hlk, hK, hij, hA, hR⟩ := C
  intro H locs arr hP hS hl
  exact lv_land hx hb hd (kk H locs arr hP hS hl)
theorem X_lor (C : Cx k w cc own nL ret fr lo) {x y : Int64} (hd : decode cc pc = .ok (.lor, 1))  (kk : X k w Z (pc + 1) ls (.long (x ||| y) :: st) h g) : X k w Z pc ls (.long y :: .long x :: st) h g := by
  obtain ⟨p, l, e, R, s, m, args, below, meth, c, A, cells, slots⟩ := k
  obtain ⟨hx, hb, hml, hown, hts, hr, hlk, hK, hij, hA, hR⟩ := C
  intro H locs arr hP hS hl
  exact lv_lor hx hb hd (kk H locs arr hP hS hl)
theorem X_lxor (C : Cx k w cc own nL ret fr lo) {x y : Int64} (hd : decode cc pc = .ok (.lxor, 1))  (kk : X k w Z (pc + 1) ls (.long (x ^^^ y) :: st) h g) : X k w Z pc ls (.long y :: .long x :: st) h g := by
  obtain ⟨p, l, e, R, s, m, args, below, meth, c, A, cells, slots⟩ := k
  obtain ⟨hx, hb, hml, hown, hts, hr, hlk, hK, hij, hA, hR⟩ := C
  intro H locs arr hP hS hl
  exact lv_lxor hx hb hd (kk H locs arr hP hS hl)
theorem X_ldiv (C : Cx k w cc own nL ret fr lo) {x y : Int64} (hd : decode cc pc = .ok (.ldiv, 1)) (hne : ¬ y = 0) (kk : X k w Z (pc + 1) ls (.long (x / y) :: st) h g) : X k w Z pc ls (.long y :: .long x :: st) h g := by
  obtain ⟨p, l, e, R, s, m, args, below, meth, c, A, cells, slots⟩ := k
  obtain ⟨hx, hb, hml, hown, hts, hr, hlk, hK, hij, hA, hR⟩ := C
  intro H locs arr hP hS hl
  exact lv_ldiv hx hb hd hne (kk H locs arr hP hS hl)
theorem X_lrem (C : Cx k w cc own nL ret fr lo) {x y : Int64} (hd : decode cc pc = .ok (.lrem, 1)) (hne : ¬ y = 0) (kk : X k w Z (pc + 1) ls (.long (x - x / y * y) :: st) h g) : X k w Z pc ls (.long y :: .long x :: st) h g := by
  obtain ⟨p, l, e, R, s, m, args, below, meth, c, A, cells, slots⟩ := k
  obtain ⟨hx, hb, hml, hown, hts, hr, hlk, hK, hij, hA, hR⟩ := C
  intro H locs arr hP hS hl
  exact lv_lrem hx hb hd hne (kk H locs arr hP hS hl)
theorem X_i2l (C : Cx k w cc own nL ret fr lo) {x : Int32} (hd : decode cc pc = .ok (.i2l, 1))  (kk : X k w Z (pc + 1) ls (.long x.toInt64 :: st) h g) : X k w Z pc ls (.int x :: st) h g := by
  obtain ⟨p, l, e, R, s, m, args, below, meth, c, A, cells, slots⟩ := k
  obtain ⟨hx, hb, hml, hown, hts, hr, hlk, hK, hij, hA, hR⟩ := C
  intro H locs arr hP hS hl
  exact lv_i2l hx hb hd rfl (kk H locs arr hP hS hl)
theorem X_l2i (C : Cx k w cc own nL ret fr lo) {x : Int64} (hd : decode cc pc = .ok (.l2i, 1))  (kk : X k w Z (pc + 1) ls (.int x.toInt32 :: st) h g) : X k w Z pc ls (.long x :: st) h g := by
  obtain ⟨p, l, e, R, s, m, args, below, meth, c, A, cells, slots⟩ := k
  obtain ⟨hx, hb, hml, hown, hts, hr, hlk, hK, hij, hA, hR⟩ := C
  intro H locs arr hP hS hl
  exact lv_l2i hx hb hd rfl (kk H locs arr hP hS hl)
theorem X_iushr (C : Cx k w cc own nL ret fr lo) {x y : Int32} (hd : decode cc pc = .ok (.iushr, 1))  (kk : X k w Z (pc + 1) ls (.int (x.toUInt32 >>> (y.toUInt32 &&& Int32.toUInt32 31)).toInt32 :: st) h g) : X k w Z pc ls (.int y :: .int x :: st) h g := by
  obtain ⟨p, l, e, R, s, m, args, below, meth, c, A, cells, slots⟩ := k
  obtain ⟨hx, hb, hml, hown, hts, hr, hlk, hK, hij, hA, hR⟩ := C
  intro H locs arr hP hS hl
  exact lv_iushr hx hb hd rfl (kk H locs arr hP hS hl)
theorem X_lcmp (C : Cx k w cc own nL ret fr lo) {x y : Int64} (hd : decode cc pc = .ok (.lcmp, 1))  (kk : X k w Z (pc + 1) ls (.int (lg_cmp x y) :: st) h g) : X k w Z pc ls (.long y :: .long x :: st) h g := by
  obtain ⟨p, l, e, R, s, m, args, below, meth, c, A, cells, slots⟩ := k
  obtain ⟨hx, hb, hml, hown, hts, hr, hlk, hK, hij, hA, hR⟩ := C
  intro H locs arr hP hS hl
  exact W.lcmp hx hb hd (kk H locs arr hP hS hl)
theorem X_iconst (C : Cx k w cc own nL ret fr lo) {n : Int} {v : Int32} (hd : decode cc pc = .ok (.iconst n, 1)) (hv : Int32.ofInt n = v) (kk : X k w Z (pc + 1) ls (.int v :: st) h g) : X k w Z pc ls (st) h g := by
  obtain ⟨p, l, e, R, s, m, args, below, meth, c, A, cells, slots⟩ := k
  obtain ⟨hx, hb, hml, hown, hts, hr, hlk, hK, hij, hA, hR⟩ := C
  intro H locs arr hP hS hl
  exact lv_iconst hx hb hd hv (kk H locs arr hP hS hl)
theorem X_bipush (C : Cx k w cc own nL ret fr lo) {n : Int} {v : Int32} (hd : decode cc pc = .ok (.bipush n, 2)) (hv : (Int8.ofInt n).toInt32 = v) (kk : X k w Z (pc + 2) ls (.int v :: st) h g) : X k w Z pc ls (st) h g := by
  obtain ⟨p, l, e, R, s, m, args, below, meth, c, A, cells, slots⟩ := k
  obtain ⟨hx, hb, hml, hown, hts, hr, hlk, hK, hij, hA, hR⟩ := C
  intro H locs arr hP hS hl
  exact lv_bipush hx hb hd hv (kk H locs arr hP hS hl)
theorem X_sipush (C : Cx k w cc own nL ret fr lo) {n : Int} {v : Int32} (hd : decode cc pc = .ok (.sipush n, 3)) (hv : (Int16.ofInt n).toInt32 = v) (kk : X k w Z (pc + 3) ls (.int v :: st) h g) : X k w Z pc ls (st) h g := by
  obtain ⟨p, l, e, R, s, m, args, below, meth, c, A, cells, slots⟩ := k
  obtain ⟨hx, hb, hml, hown, hts, hr, hlk, hK, hij, hA, hR⟩ := C
  intro H locs arr hP hS hl
  exact lv_sipush hx hb hd hv (kk H locs arr hP hS hl)
theorem X_lconst (C : Cx k w cc own nL ret fr lo) {n : Fin 2} {v : Int64} (hd : decode cc pc = .ok (.lconst n, 1)) (hv : Int64.ofNat (n : Nat) = v) (kk : X k w Z (pc + 1) ls (.long v :: st) h g) : X k w Z pc ls (st) h g := by
  obtain ⟨p, l, e, R, s, m, args, below, meth, c, A, cells, slots⟩ := k
  obtain ⟨hx, hb, hml, hown, hts, hr, hlk, hK, hij, hA, hR⟩ := C
  intro H locs arr hP hS hl
  exact lv_lconst hx hb hd hv (kk H locs arr hP hS hl)
theorem X_dup (C : Cx k w cc own nL ret fr lo) {va : Value} (hd : decode cc pc = .ok (.dup, 1)) (hva : va.category = 1) (kk : X k w Z (pc + 1) ls (va :: va :: st) h g) : X k w Z pc ls (va :: st) h g := by
  obtain ⟨p, l, e, R, s, m, args, below, meth, c, A, cells, slots⟩ := k
  obtain ⟨hx, hb, hml, hown, hts, hr, hlk, hK, hij, hA, hR⟩ := C
  intro H locs arr hP hS hl
  exact lv_dup hx hb hd hva (kk H locs arr hP hS hl)
theorem X_pop (C : Cx k w cc own nL ret fr lo) {va : Value} (hd : decode cc pc = .ok (.pop, 1)) (hva : va.category = 1) (kk : X k w Z (pc + 1) ls (st) h g) : X k w Z pc ls (va :: st) h g := by
  obtain ⟨p, l, e, R, s, m, args, below, meth, c, A, cells, slots⟩ := k
  obtain ⟨hx, hb, hml, hown, hts, hr, hlk, hK, hij, hA, hR⟩ := C
  intro H locs arr hP hS hl
  exact lv_pop hx hb hd hva (kk H locs arr hP hS hl)
theorem X_pop2 (C : Cx k w cc own nL ret fr lo) {va : Value} (hd : decode cc pc = .ok (.pop2, 1)) (hva : va.category = 2) (kk : X k w Z (pc + 1) ls (st) h g) : X k w Z pc ls (va :: st) h g := by
  obtain ⟨p, l, e, R, s, m, args, below, meth, c, A, cells, slots⟩ := k
  obtain ⟨hx, hb, hml, hown, hts, hr, hlk, hK, hij, hA, hR⟩ := C
  intro H locs arr hP hS hl
  exact lv_pop2_2 hx hb hd hva (kk H locs arr hP hS hl)
theorem X_dup2 (C : Cx k w cc own nL ret fr lo) {va vb : Value} (hd : decode cc pc = .ok (.dup2, 1)) (hva : va.category = 1) (hvb : vb.category = 1) (kk : X k w Z (pc + 1) ls (va :: vb :: va :: vb :: st) h g) : X k w Z pc ls (va :: vb :: st) h g := by
  obtain ⟨p, l, e, R, s, m, args, below, meth, c, A, cells, slots⟩ := k
  obtain ⟨hx, hb, hml, hown, hts, hr, hlk, hK, hij, hA, hR⟩ := C
  intro H locs arr hP hS hl
  exact lv_dup2_11 hx hb hd hva hvb (kk H locs arr hP hS hl)
theorem X_iload_n (C : Cx k w cc own nL ret fr lo) {n : Fin 4} (i : Nat) {x : Int32} (hd : decode cc pc = .ok (.iload_n n, 1)) (hi : (n : Nat) = i) (hv : ls[i]? = some (some (.int x))) (kk : X k w Z (pc + 1) ls (.int x :: st) h g) : X k w Z pc ls st h g := by
  obtain ⟨p, l, e, R, s, m, args, below, meth, c, A, cells, slots⟩ := k
  obtain ⟨hx, hb, hR⟩ := C
  intro H locs arr hP hS hl
  exact lv_iload_n hx hb hd hi (hl.2.2 i _ hv) (kk H locs arr hP hS hl)
theorem X_iload (C : Cx k w cc own nL ret fr lo) {i : Nat} {x : Int32} (hd : decode cc pc = .ok (.iload i, 2)) (hv : ls[i]? = some (some (.int x))) (kk : X k w Z (pc + 2) ls (.int x :: st) h g) : X k w Z pc ls st h g := by
  obtain ⟨p, l, e, R, s, m, args, below, meth, c, A, cells, slots⟩ := k
  obtain ⟨hx, hb, hR⟩ := C
  intro H locs arr hP hS hl
  exact lv_iload hx hb hd (hl.2.2 i _ hv) (kk H locs arr hP hS hl)
theorem X_lload_n (C : Cx k w cc own nL ret fr lo) {n : Fin 4} (i : Nat) {x : Int64} (hd : decode cc pc = .ok (.lload_n n, 1)) (hi : (n : Nat) = i) (hv : ls[i]? = some (some (.long x))) (kk : X k w Z (pc + 1) ls (.long x :: st) h g) : X k w Z pc ls st h g := by
  obtain ⟨p, l, e, R, s, m, args, below, meth, c, A, cells, slots⟩ := k
  obtain ⟨hx, hb, hR⟩ := C
  intro H locs arr hP hS hl
  exact lv_lload_n hx hb hd hi (hl.2.2 i _ hv) (kk H locs arr hP hS hl)
theorem X_lload (C : Cx k w cc own nL ret fr lo) {i : Nat} {x : Int64} (hd : decode cc pc = .ok (.lload i, 2)) (hv : ls[i]? = some (some (.long x))) (kk : X k w Z (pc + 2) ls (.long x :: st) h g) : X k w Z pc ls st h g := by
  obtain ⟨p, l, e, R, s, m, args, below, meth, c, A, cells, slots⟩ := k
  obtain ⟨hx, hb, hR⟩ := C
  intro H locs arr hP hS hl
  exact lv_lload hx hb hd (hl.2.2 i _ hv) (kk H locs arr hP hS hl)
theorem X_aload_n (C : Cx k w cc own nL ret fr lo) {n : Fin 4} (i : Nat) {x : Nat} (hd : decode cc pc = .ok (.aload_n n, 1)) (hi : (n : Nat) = i) (hv : ls[i]? = some (some (.ref x))) (kk : X k w Z (pc + 1) ls (.ref x :: st) h g) : X k w Z pc ls st h g := by
  obtain ⟨p, l, e, R, s, m, args, below, meth, c, A, cells, slots⟩ := k
  obtain ⟨hx, hb, hR⟩ := C
  intro H locs arr hP hS hl
  exact lv_aload_n hx hb hd hi (hl.2.2 i _ hv) (kk H locs arr hP hS hl)
theorem X_aload (C : Cx k w cc own nL ret fr lo) {i : Nat} {x : Nat} (hd : decode cc pc = .ok (.aload i, 2)) (hv : ls[i]? = some (some (.ref x))) (kk : X k w Z (pc + 2) ls (.ref x :: st) h g) : X k w Z pc ls st h g := by
  obtain ⟨p, l, e, R, s, m, args, below, meth, c, A, cells, slots⟩ := k
  obtain ⟨hx, hb, hR⟩ := C
  intro H locs arr hP hS hl
  exact lv_aload hx hb hd (hl.2.2 i _ hv) (kk H locs arr hP hS hl)
theorem X_istore_n (C : Cx k w cc own nL ret fr lo) {n : Fin 4} (i : Nat) {x : Int32} (hd : decode cc pc = .ok (.istore_n n, 1)) (hi : (n : Nat) = i) (hn : i < ls.length) (hs : st1 ls i (.int x) = ls') (kk : X k w Z (pc + 1) ls' st h g) : X k w Z pc ls (.int x :: st) h g := by
  obtain ⟨p, l, e, R, s, m, args, below, meth, c, A, cells, slots⟩ := k
  obtain ⟨hx, hb, hR⟩ := C
  intro H locs arr hP hS hl
  exact lv_istore_n hx hb hd hi (lh_iff.mp hl) hn rfl (fun arr' hl' => kk H locs arr' hP hS (lh_st1 rfl hn hs hl'))
theorem X_istore (C : Cx k w cc own nL ret fr lo) {i : Nat} {x : Int32} (hd : decode cc pc = .ok (.istore i, 2))  (hn : i < ls.length) (hs : st1 ls i (.int x) = ls') (kk : X k w Z (pc + 2) ls' st h g) : X k w Z pc ls (.int x :: st) h g := by
  obtain ⟨p, l, e, R, s, m, args, below, meth, c, A, cells, slots⟩ := k
  obtain ⟨hx, hb, hR⟩ := C
  intro H locs arr hP hS hl
  exact lv_istore hx hb hd  (lh_iff.mp hl) hn rfl (fun arr' hl' => kk H locs arr' hP hS (lh_st1 rfl hn hs hl'))
theorem X_lstore_n (C : Cx k w cc own nL ret fr lo) {n : Fin 4} (i : Nat) {x : Int64} (hd : decode cc pc = .ok (.lstore_n n, 1)) (hi : (n : Nat) = i) (hn : i + 1 < ls.length) (hs : st2 ls i (.long x) = ls') (kk : X k w Z (pc + 1) ls' st h g) : X k w Z pc ls (.long x :: st) h g := by
  obtain ⟨p, l, e, R, s, m, args, below, meth, c, A, cells, slots⟩ := k
  obtain ⟨hx, hb, hR⟩ := C
  intro H locs arr hP hS hl
  exact lv_lstore_n hx hb hd hi (lh_iff.mp hl) hn rfl (fun arr' hl' => kk H locs arr' hP hS (lh_st2 rfl hn hs hl'))
theorem X_lstore (C : Cx k w cc own nL ret fr lo) {i : Nat} {x : Int64} (hd : decode cc pc = .ok (.lstore i, 2))  (hn : i + 1 < ls.length) (hs : st2 ls i (.long x) = ls') (kk : X k w Z (pc + 2) ls' st h g) : X k w Z pc ls (.long x :: st) h g := by
  obtain ⟨p, l, e, R, s, m, args, below, meth, c, A, cells, slots⟩ := k
  obtain ⟨hx, hb, hR⟩ := C
  intro H locs arr hP hS hl
  exact lv_lstore hx hb hd  (lh_iff.mp hl) hn rfl (fun arr' hl' => kk H locs arr' hP hS (lh_st2 rfl hn hs hl'))
theorem X_astore_n (C : Cx k w cc own nL ret fr lo) {n : Fin 4} (i : Nat) {x : Nat} (hd : decode cc pc = .ok (.astore_n n, 1)) (hi : (n : Nat) = i) (hn : i < ls.length) (hs : st1 ls i (.ref x) = ls') (kk : X k w Z (pc + 1) ls' st h g) : X k w Z pc ls (.ref x :: st) h g := by
  obtain ⟨p, l, e, R, s, m, args, below, meth, c, A, cells, slots⟩ := k
  obtain ⟨hx, hb, hR⟩ := C
  intro H locs arr hP hS hl
  exact lv_astore_n hx hb hd hi (lh_iff.mp hl) hn rfl (fun arr' hl' => kk H locs arr' hP hS (lh_st1 rfl hn hs hl'))
theorem X_astore (C : Cx k w cc own nL ret fr lo) {i : Nat} {x : Nat} (hd : decode cc pc = .ok (.astore i, 2))  (hn : i < ls.length) (hs : st1 ls i (.ref x) = ls') (kk : X k w Z (pc + 2) ls' st h g) : X k w Z pc ls (.ref x :: st) h g := by
  obtain ⟨p, l, e, R, s, m, args, below, meth, c, A, cells, slots⟩ := k
  obtain ⟨hx, hb, hR⟩ := C
  intro H locs arr hP hS hl
  exact lv_astore hx hb hd  (lh_iff.mp hl) hn rfl (fun arr' hl' => kk H locs arr' hP hS (lh_st1 rfl hn hs hl'))
theorem X_iinc (C : Cx k w cc own nL ret fr lo) {i : Nat} {n : Int} {x v : Int32} (hd : decode cc pc = .ok (.iinc i n, 3)) (hx0 : ls[i]? = some (some (.int x))) (hv : x + Int32.ofInt n = v) (hs : st1 ls i (.int v) = ls') (kk : X k w Z (pc + 3) ls' st h g) : X k w Z pc ls st h g := by
  obtain ⟨p, l, e, R, s, m, args, below, meth, c, A, cells, slots⟩ := k
  obtain ⟨hx, hb, hR⟩ := C
  intro H locs arr hP hS hl
  have hn : i < ls.length := (List.getElem?_eq_some_iff.mp hx0).1
  obtain ⟨j, hj⟩ := List.getElem?_of_mem (kl_mem.mpr hx0 : ((i, Value.int x) : Nat × Value) ∈ kl ls)
  exact lv_iinc hx hb hd (lh_iff.mp hl) hj hv hn rfl (fun arr' hl' => kk H locs arr' hP hS (lh_st1 rfl hn hs hl'))
theorem X_goto (C : Cx k w cc own nL ret fr lo) {off : Int} {tgt : Nat} (hd : decode cc pc = .ok (.goto off, 3)) (ht : (pc : Int) + off = (tgt : Int)) (kk : X k w Z tgt ls st h g) : X k w Z pc ls st h g := by
  obtain ⟨p, l, e, R, s, m, args, below, meth, c, A, cells, slots⟩ := k
  obtain ⟨hx, hb, hR⟩ := C
  intro H locs arr hP hS hl
  exact lv_goto hx hb hd ht (kk H locs arr hP hS hl)
/-- the top of the stack by another name -/
theorem X_ti {x y : Int32} (e : x = y) (kk : X k w Z pc ls (.int y :: st) h g) : X k w Z pc ls (.int x :: st) h g := by rw [e]; exact kk
theorem X_tl {x y : Int64} (e : x = y) (kk : X k w Z pc ls (.long y :: st) h g) : X k w Z pc ls (.long x :: st) h g := by rw [e]; exact kk
theorem X_if_eq (C : Cx k w cc own nL ret fr lo) {x : Int32} {off : Int} {tgt : Nat} (hd : decode cc pc = .ok (.ifCond .eq off, 3)) (ht : (pc : Int) + off = (tgt : Int)) (kt : x = 0 → X k w Z tgt ls st h g) (kf : ¬ x = 0 → X k w Z (pc + 3) ls st h g) : X k w Z pc ls (.int x :: st) h g := by
  obtain ⟨p, l, e, R, s, m, args, below, meth, c, A, cells, slots⟩ := k
  obtain ⟨hx, hb, hR⟩ := C
  intro H locs arr hP hS hl
  exact lv_if_eq hx hb hd ht (fun q => kt q H locs arr hP hS hl) (fun q => kf q H locs arr hP hS hl)
theorem X_if_ne (C : Cx k w cc own nL ret fr lo) {x : Int32} {off : Int} {tgt : Nat} (hd : decode cc pc = .ok (.ifCond .ne off, 3)) (ht : (pc : Int) + off = (tgt : Int)) (kt : ¬ x = 0 → X k w Z tgt ls st h g) (kf : x = 0 → X k w Z (pc + 3) ls st h g) : X k w Z pc ls (.int x :: st) h g := by
  obtain ⟨p, l, e, R, s, m, args, below, meth, c, A, cells, slots⟩ := k
  obtain ⟨hx, hb, hR⟩ := C
  intro H locs arr hP hS hl
  exact lv_if_ne hx hb hd ht (fun q => kt q H locs arr hP hS hl) (fun q => kf q H locs arr hP hS hl)
theorem X_if_lt (C : Cx k w cc own nL ret fr lo) {x : Int32} {off : Int} {tgt : Nat} (hd : decode cc pc = .ok (.ifCond .lt off, 3)) (ht : (pc : Int) + off = (tgt : Int)) (kt : x < 0 → X k w Z tgt ls st h g) (kf : ¬ x < 0 → X k w Z (pc + 3) ls st h g) : X k w Z pc ls (.int x :: st) h g := by
  obtain ⟨p, l, e, R, s, m, args, below, meth, c, A, cells, slots⟩ := k
  obtain ⟨hx, hb, hR⟩ := C
  intro H locs arr hP hS hl
  exact lv_if_lt hx hb hd ht (fun q => kt q H locs arr hP hS hl) (fun q => kf q H locs arr hP hS hl)
theorem X_if_ge (C : Cx k w cc own nL ret fr lo) {x : Int32} {off : Int} {tgt : Nat} (hd : decode cc pc = .ok (.ifCond .ge off, 3)) (ht : (pc : Int) + off = (tgt : Int)) (kt : 0 ≤ x → X k w Z tgt ls st h g) (kf : ¬ 0 ≤ x → X k w Z (pc + 3) ls st h g) : X k w Z pc ls (.int x :: st) h g := by
  obtain ⟨p, l, e, R, s, m, args, below, meth, c, A, cells, slots⟩ := k
  obtain ⟨hx, hb, hR⟩ := C
  intro H locs arr hP hS hl
  exact lv_if_ge hx hb hd ht (fun q => kt q H locs arr hP hS hl) (fun q => kf q H locs arr hP hS hl)
theorem X_if_gt (C : Cx k w cc own nL ret fr lo) {x : Int32} {off : Int} {tgt : Nat} (hd : decode cc pc = .ok (.ifCond .gt off, 3)) (ht : (pc : Int) + off = (tgt : Int)) (kt : 0 < x → X k w Z tgt ls st h g) (kf : ¬ 0 < x → X k w Z (pc + 3) ls st h g) : X k w Z pc ls (.int x :: st) h g := by
  obtain ⟨p, l, e, R, s, m, args, below, meth, c, A, cells, slots⟩ := k
  obtain ⟨hx, hb, hR⟩ := C
  intro H locs arr hP hS hl
  exact lv_if_gt hx hb hd ht (fun q => kt q H locs arr hP hS hl) (fun q => kf q H locs arr hP hS hl)
theorem X_if_le (C : Cx k w cc own nL ret fr lo) {x : Int32} {off : Int} {tgt : Nat} (hd : decode cc pc = .ok (.ifCond .le off, 3)) (ht : (pc : Int) + off = (tgt : Int)) (kt : x ≤ 0 → X k w Z tgt ls st h g) (kf : ¬ x ≤ 0 → X k w Z (pc + 3) ls st h g) : X k w Z pc ls (.int x :: st) h g := by
  obtain ⟨p, l, e, R, s, m, args, below, meth, c, A, cells, slots⟩ := k
  obtain ⟨hx, hb, hR⟩ := C
  intro H locs arr hP hS hl
  exact lv_if_le hx hb hd ht (fun q => kt q H locs arr hP hS hl) (fun q => kf q H locs arr hP hS hl)
theorem X_icmp_eq (C : Cx k w cc own nL ret fr lo) {x y : Int32} {off : Int} {tgt : Nat} (hd : decode cc pc = .ok (.if_icmp .eq off, 3)) (ht : (pc : Int) + off = (tgt : Int)) (kt : x = y → X k w Z tgt ls st h g) (kf : ¬ x = y → X k w Z (pc + 3) ls st h g) : X k w Z pc ls (.int y :: .int x :: st) h g := by
  obtain ⟨p, l, e, R, s, m, args, below, meth, c, A, cells, slots⟩ := k
  obtain ⟨hx, hb, hR⟩ := C
  intro H locs arr hP hS hl
  exact lv_icmp_eq hx hb hd ht (fun q => kt q H locs arr hP hS hl) (fun q => kf q H locs arr hP hS hl)
theorem X_icmp_ne (C : Cx k w cc own nL ret fr lo) {x y : Int32} {off : Int} {tgt : Nat} (hd : decode cc pc = .ok (.if_icmp .ne off, 3)) (ht : (pc : Int) + off = (tgt : Int)) (kt : ¬ x = y → X k w Z tgt ls st h g) (kf : x = y → X k w Z (pc + 3) ls st h g) : X k w Z pc ls (.int y :: .int x :: st) h g := by
  obtain ⟨p, l, e, R, s, m, args, below, meth, c, A, cells, slots⟩ := k
  obtain ⟨hx, hb, hR⟩ := C
  intro H locs arr hP hS hl
  exact lv_icmp_ne hx hb hd ht (fun q => kt q H locs arr hP hS hl) (fun q => kf q H locs arr hP hS hl)
theorem X_icmp_lt (C : Cx k w cc own nL ret fr lo) {x y : Int32} {off : Int} {tgt : Nat} (hd : decode cc pc = .ok (.if_icmp .lt off, 3)) (ht : (pc : Int) + off = (tgt : Int)) (kt : x < y → X k w Z tgt ls st h g) (kf : ¬ x < y → X k w Z (pc + 3) ls st h g) : X k w Z pc ls (.int y :: .int x :: st) h g := by
  obtain ⟨p, l, e, R, s, m, args, below, meth, c, A, cells, slots⟩ := k
  obtain ⟨hx, hb, hR⟩ := C
  intro H locs arr hP hS hl
  exact lv_icmp_lt hx hb hd ht (fun q => kt q H locs arr hP hS hl) (fun q => kf q H locs arr hP hS hl)
theorem X_icmp_ge (C : Cx k w cc own nL ret fr lo) {x y : Int32} {off : Int} {tgt : Nat} (hd : decode cc pc = .ok (.if_icmp .ge off, 3)) (ht : (pc : Int) + off = (tgt : Int)) (kt : y ≤ x → X k w Z tgt ls st h g) (kf : ¬ y ≤ x → X k w Z (pc + 3) ls st h g) : X k w Z pc ls (.int y :: .int x :: st) h g := by
  obtain ⟨p, l, e, R, s, m, args, below, meth, c, A, cells, slots⟩ := k
  obtain ⟨hx, hb, hR⟩ := C
  intro H locs arr hP hS hl
  exact lv_icmp_ge hx hb hd ht (fun q => kt q H locs arr hP hS hl) (fun q => kf q H locs arr hP hS hl)
theorem X_icmp_gt (C : Cx k w cc own nL ret fr lo) {x y : Int32} {off : Int} {tgt : Nat} (hd : decode cc pc = .ok (.if_icmp .gt off, 3)) (ht : (pc : Int) + off = (tgt : Int)) (kt : y < x → X k w Z tgt ls st h g) (kf : ¬ y < x → X k w Z (pc + 3) ls st h g) : X k w Z pc ls (.int y :: .int x :: st) h g := by
  obtain ⟨p, l, e, R, s, m, args, below, meth, c, A, cells, slots⟩ := k
  obtain ⟨hx, hb, hR⟩ := C
  intro H locs arr hP hS hl
  exact lv_icmp_gt hx hb hd ht (fun q => kt q H locs arr hP hS hl) (fun q => kf q H locs arr hP hS hl)
theorem X_icmp_le (C : Cx k w cc own nL ret fr lo) {x y : Int32} {off : Int} {tgt : Nat} (hd : decode cc pc = .ok (.if_icmp .le off, 3)) (ht : (pc : Int) + off = (tgt : Int)) (kt : x ≤ y → X k w Z tgt ls st h g) (kf : ¬ x ≤ y → X k w Z (pc + 3) ls st h g) : X k w Z pc ls (.int y :: .int x :: st) h g := by
  obtain ⟨p, l, e, R, s, m, args, below, meth, c, A, cells, slots⟩ := k
  obtain ⟨hx, hb, hR⟩ := C
  intro H locs arr hP hS hl
  exact lv_icmp_le hx hb hd ht (fun q => kt q H locs arr hP hS hl) (fun q => kf q H locs arr hP hS hl)
theorem X_swOut (C : Cx k w cc own nL ret fr lo) {dflt a b : Int} {offs : Array Int} {len : Nat} {x : Int32} {tgt : Nat} (hd : decode cc pc = .ok (.tableswitch dflt a b offs, len)) (hq : x.toInt < a ∨ b < x.toInt) (ht : (pc : Int) + dflt = (tgt : Int)) (kk : X k w Z tgt ls st h g) : X k w Z pc ls (.int x :: st) h g := by
  obtain ⟨p, l, e, R, s, m, args, below, meth, c, A, cells, slots⟩ := k
  obtain ⟨hx, hb, hR⟩ := C
  intro H locs arr hP hS hl
  exact lv_tableOut hx hb hd hq ht (kk H locs arr hP hS hl)
theorem X_swIn (C : Cx k w cc own nL ret fr lo) {dflt a b : Int} {offs : Array Int} {len : Nat} {x : Int32} {off : Int} {tgt : Nat} (hd : decode cc pc = .ok (.tableswitch dflt a b offs, len)) (i : Int) (hq : x.toInt = i) (h1 : ¬ i < a) (h2 : ¬ b < i) (ho : offs[(i - a).toNat]? = some off) (ht : (pc : Int) + off = (tgt : Int)) (kk : X k w Z tgt ls st h g) : X k w Z pc ls (.int x :: st) h g := by
  obtain ⟨p, l, e, R, s, m, args, below, meth, c, A, cells, slots⟩ := k
  obtain ⟨hx, hb, hR⟩ := C
  intro H locs arr hP hS hl
  subst hq
  exact lv_tableIn hx hb hd h1 h2 ho ht (kk H locs arr hP hS hl)
theorem X_ldc (C : Cx k w cc own nL ret fr lo) {index : Nat} {v : Int32} (hd : decode cc pc = .ok (.ldc index, 2)) (hc : Cond.constant own index v ∈ gW) (kk : X k w Z (pc + 2) ls (.int v :: st) h g) : X k w Z pc ls st h g := by
  obtain ⟨p, l, e, R, s, m, args, below, meth, c, A, cells, slots⟩ := k
  obtain ⟨hx, hb, hml, hown, hts, hR⟩ := C
  intro H locs arr hP hS hl
  exact lv_ldc hx hb hown (hts _ hc) hd (kk H locs arr hP hS hl)
theorem X_ldc2 (C : Cx k w cc own nL ret fr lo) {index : Nat} {v : Int64} (hd : decode cc pc = .ok (.ldc2_w index, 3)) (hc : Cond.constantLong own index v ∈ gW) (kk : X k w Z (pc + 3) ls (.long v :: st) h g) : X k w Z pc ls st h g := by
  obtain ⟨p, l, e, R, s, m, args, below, meth, c, A, cells, slots⟩ := k
  obtain ⟨hx, hb, hml, hown, hts, hR⟩ := C
  intro H locs arr hP hS hl
  exact lv_ldc2 hx hb hown (hts _ hc) hd (kk H locs arr hP hS hl)
/-- a field is read: its place is an object of the class's number ci, its fs[i] says what it holds -/
theorem X_get (C : Cx k w cc own nL ret fr lo) (p0 i : Nat) {ci index t : Nat} {fs : List Nat} {Cn ref : String} {T : u_T} {n : Nat} (hp : p0 < wN w) (hs : wS w p0 = .inl (ci, fs)) (ht : fs[i]? = some t) (hc : vwCl[ci]? = some (Cn, T, n)) (hi : i < n) (hin : ∀ x ∈ u_ws Cn T n, x ∈ gW) (hlk : Cond.fieldLink own index ref (T i).2.1 (T i).2.2.1 ∈ gW) (hrf : (T i).1 = ref) (hd : decode cc pc = .ok (.getfield index, 3)) {v : Value} (hv : fk (wA w) h g p0 i t = v) (kk : X k w Z (pc + 3) ls (v :: st) h g) : X k w Z pc ls (.ref (wA w p0) :: st) h g := by
  obtain ⟨p, l, e, R, s, m, args, below, meth, c, A, cells, slots⟩ := k
  obtain ⟨hx, hb, hml, hown, hts, hr, hl0, hK, hij, hA, hR⟩ := C
  intro H locs arr hP hS hl
  subst hv
  have he : (wW w h g)[p0]? = some (wA w p0, .inr (ci, fl (wA w) h g p0 0 fs)) := by
    unfold wW; rw [wl_get hp, hs]; rfl
  have hg := fl_get (wA w) h g p0 fs 0 i t ht
  rw [Nat.zero_add] at hg
  exact va_get hx hb hts hin hown hK hP p0 he hc i hi (hts _ hlk) (fun x q => by rw [← hrf]; exact q) hg hd (kk H locs arr hP hS hl)
theorem X_putI (C : Cx k w cc own nL ret fr lo) (p0 i : Nat) {ci index : Nat} {fs : List Nat} {Cn ref : String} {T : u_T} {n : Nat} {x : Int32} (ty0 : Nat → FieldType) (hty : ∀ j, j < n → parseFieldDescriptor (T j).2.2.1 = some (ty0 j)) (hnm : ∀ a, a < n → ∀ b, b < n → a ≠ b → (T a).2.1 ≠ (T b).2.1) (hp : p0 < wN w) (hs : wS w p0 = .inl (ci, fs)) (ht : fs[i]? = some 0) (hc : vwCl[ci]? = some (Cn, T, n)) (hi : i < n) (hin : ∀ x ∈ u_ws Cn T n, x ∈ gW) (hlk : Cond.fieldLink own index ref (T i).2.1 (T i).2.2.1 ∈ gW) (hrf : (T i).1 = ref) (hfin : (T i).2.2.2 = false) (hd0 : parseFieldDescriptor (T i).2.2.1 = some .int) (hd : decode cc pc = .ok (.putfield index, 3)) (kk : X k w Z (pc + 3) ls st (u2 h p0 i x) g) : X k w Z pc ls (.int x :: .ref (wA w p0) :: st) h g := by
  obtain ⟨p, l, e, R, s, m, args, below, meth, c, A, cells, slots⟩ := k
  obtain ⟨hx, hb, hml, hown, hts, hr, hl0, hK, hij, hA, hR⟩ := C
  intro H locs arr hP hS hl
  have he : (wW w h g)[p0]? = some (wA w p0, .inr (ci, fl (wA w) h g p0 0 fs)) := by
    unfold wW; rw [wl_get hp, hs]; rfl
  have hlen : i < (fl (wA w) h g p0 0 fs).length := by
    rw [fl_len]; exact (List.getElem?_eq_some_iff.mp ht).1
  refine va_put hx hb hts hin ty0 hty hnm hown hK hP (wl_D hij hA h g) hS p0 he hc i hi (hts _ hlk) (fun x q => by rw [← hrf]; exact q) hfin hd0 rfl rfl hlen hd (fun H1 locs1 hP1 hD1 hS1 => ?_)
  refine kk H1 locs1 arr ?_ hS1 hl
  unfold wW at hP1 ⊢
  rw [wl_putI hp hs ht] at hP1
  exact hP1
theorem X_putJ (C : Cx k w cc own nL ret fr lo) (p0 i : Nat) {ci index : Nat} {fs : List Nat} {Cn ref : String} {T : u_T} {n : Nat} {x : Int64} (ty0 : Nat → FieldType) (hty : ∀ j, j < n → parseFieldDescriptor (T j).2.2.1 = some (ty0 j)) (hnm : ∀ a, a < n → ∀ b, b < n → a ≠ b → (T a).2.1 ≠ (T b).2.1) (hp : p0 < wN w) (hs : wS w p0 = .inl (ci, fs)) (ht : fs[i]? = some 1) (hc : vwCl[ci]? = some (Cn, T, n)) (hi : i < n) (hin : ∀ x ∈ u_ws Cn T n, x ∈ gW) (hlk : Cond.fieldLink own index ref (T i).2.1 (T i).2.2.1 ∈ gW) (hrf : (T i).1 = ref) (hfin : (T i).2.2.2 = false) (hd0 : parseFieldDescriptor (T i).2.2.1 = some .long) (hd : decode cc pc = .ok (.putfield index, 3)) (kk : X k w Z (pc + 3) ls st h (u2 g p0 i x)) : X k w Z pc ls (.long x :: .ref (wA w p0) :: st) h g := by
  obtain ⟨p, l, e, R, s, m, args, below, meth, c, A, cells, slots⟩ := k
  obtain ⟨hx, hb, hml, hown, hts, hr, hl0, hK, hij, hA, hR⟩ := C
  intro H locs arr hP hS hl
  have he : (wW w h g)[p0]? = some (wA w p0, .inr (ci, fl (wA w) h g p0 0 fs)) := by
    unfold wW; rw [wl_get hp, hs]; rfl
  have hlen : i < (fl (wA w) h g p0 0 fs).length := by
    rw [fl_len]; exact (List.getElem?_eq_some_iff.mp ht).1
  refine va_put hx hb hts hin ty0 hty hnm hown hK hP (wl_D hij hA h g) hS p0 he hc i hi (hts _ hlk) (fun x q => by rw [← hrf]; exact q) hfin hd0 rfl rfl hlen hd (fun H1 locs1 hP1 hD1 hS1 => ?_)
  refine kk H1 locs1 arr ?_ hS1 hl
  unfold wW at hP1 ⊢
  rw [wl_putJ hp hs ht] at hP1
  exact hP1
/-- rows of ints, of booleans, of places -/
theorem X_iald (C : Cx k w cc own nL ret fr lo) (p0 : Nat) {n : Nat} {i : Int32} (hp : p0 < wN w) (hs : wS w p0 = .inr (.inl (0, n))) (hi : vp_in i n) (hd : decode cc pc = .ok (.iaload, 1)) {v : Int32} (hv : h p0 i.toNatClampNeg = v) (kk : X k w Z (pc + 1) ls (.int v :: st) h g) : X k w Z pc ls (.int i :: .ref (wA w p0) :: st) h g := by
  obtain ⟨p, l, e, R, s, m, args, below, meth, c, A, cells, slots⟩ := k
  obtain ⟨hx, hb, hml, hown, hts, hr, hl0, hK, hij, hA, hR⟩ := C
  intro H locs arr hP hS hl
  subst hv
  have he : (wW w h g)[p0]? = some (wA w p0, .inl (wY_ w 0, n, .inl (h p0))) := by
    unfold wW; rw [wl_get hp, hs]; rfl
  exact va_iald hx hb hK hP p0 0 he rfl hi hd (kk H locs arr hP hS hl)
theorem X_zald (C : Cx k w cc own nL ret fr lo) (p0 : Nat) {n : Nat} {i : Int32} (hp : p0 < wN w) (hs : wS w p0 = .inr (.inl (1, n))) (hi : vp_in i n) (hd : decode cc pc = .ok (.baload, 1)) {v : Int32} (hv : h p0 i.toNatClampNeg = v) (kk : X k w Z (pc + 1) ls (.int v :: st) h g) : X k w Z pc ls (.int i :: .ref (wA w p0) :: st) h g := by
  obtain ⟨p, l, e, R, s, m, args, below, meth, c, A, cells, slots⟩ := k
  obtain ⟨hx, hb, hml, hown, hts, hr, hl0, hK, hij, hA, hR⟩ := C
  intro H locs arr hP hS hl
  subst hv
  have he : (wW w h g)[p0]? = some (wA w p0, .inl (wY_ w 1, n, .inl (h p0))) := by
    unfold wW; rw [wl_get hp, hs]; rfl
  exact va_zald hx hb hK hP p0 1 he rfl hi hd (kk H locs arr hP hS hl)
theorem X_iast (C : Cx k w cc own nL ret fr lo) (p0 : Nat) {n : Nat} {i x : Int32} (hp : p0 < wN w) (hs : wS w p0 = .inr (.inl (0, n))) (hi : vp_in i n) (hd : decode cc pc = .ok (.iastore, 1)) {j : Nat} (hj : i.toNatClampNeg = j) (kk : X k w Z (pc + 1) ls st (u2 h p0 j x) g) : X k w Z pc ls (.int x :: .int i :: .ref (wA w p0) :: st) h g := by
  obtain ⟨p, l, e, R, s, m, args, below, meth, c, A, cells, slots⟩ := k
  obtain ⟨hx, hb, hml, hown, hts, hr, hl0, hK, hij, hA, hR⟩ := C
  intro H locs arr hP hS hl
  subst hj
  have he : (wW w h g)[p0]? = some (wA w p0, .inl (wY_ w 0, n, .inl (h p0))) := by
    unfold wW; rw [wl_get hp, hs]; rfl
  refine va_iast hx hb hK hP (wl_D hij hA h g) hS p0 0 he rfl hi hd (fun H1 locs1 hP1 hD1 hS1 => ?_)
  refine kk H1 locs1 arr ?_ hS1 hl
  unfold wW at hP1 ⊢
  rw [wl_putA hp hs] at hP1
  exact hP1
theorem X_zast (C : Cx k w cc own nL ret fr lo) (p0 : Nat) {n : Nat} {i x : Int32} (hp : p0 < wN w) (hs : wS w p0 = .inr (.inl (1, n))) (hi : vp_in i n) (hd : decode cc pc = .ok (.bastore, 1)) {j : Nat} (hj : i.toNatClampNeg = j) (kk : X k w Z (pc + 1) ls st (u2 h p0 j (vp_nar .boolean x)) g) : X k w Z pc ls (.int x :: .int i :: .ref (wA w p0) :: st) h g := by
  obtain ⟨p, l, e, R, s, m, args, below, meth, c, A, cells, slots⟩ := k
  obtain ⟨hx, hb, hml, hown, hts, hr, hl0, hK, hij, hA, hR⟩ := C
  intro H locs arr hP hS hl
  subst hj
  have he : (wW w h g)[p0]? = some (wA w p0, .inl (wY_ w 1, n, .inl (h p0))) := by
    unfold wW; rw [wl_get hp, hs]; rfl
  refine va_zast hx hb hK hP (wl_D hij hA h g) hS p0 1 he rfl hi hd (fun H1 locs1 hP1 hD1 hS1 => ?_)
  refine kk H1 locs1 arr ?_ hS1 hl
  unfold wW at hP1 ⊢
  rw [wl_putA hp hs] at hP1
  exact hP1
theorem X_aald (C : Cx k w cc own nL ret fr lo) (p0 : Nat) {ps : List Nat} {i : Int32} (q0 : Nat) (hp : p0 < wN w) (hs : wS w p0 = .inr (.inr ps)) (hi : vp_in i ps.length) (hq : ps[i.toNatClampNeg]? = some q0) (hd : decode cc pc = .ok (.aaload, 1)) (kk : X k w Z (pc + 1) ls (.ref (wA w q0) :: st) h g) : X k w Z pc ls (.int i :: .ref (wA w p0) :: st) h g := by
  obtain ⟨p, l, e, R, s, m, args, below, meth, c, A, cells, slots⟩ := k
  obtain ⟨hx, hb, hml, hown, hts, hr, hl0, hK, hij, hA, hR⟩ := C
  intro H locs arr hP hS hl
  have he : (wW w h g)[p0]? = some (wA w p0, .inl (wY_ w 2, ps.length, .inr (.inr (.inr (.inr (fun i => (ps[i]?).map (wA w))))))) := by
    unfold wW; rw [wl_get hp, hs]; rfl
  refine va_aldq hx hb hK hP p0 2 he rfl hi hd ?_
  rw [hq]
  exact kk H locs arr hP hS hl
theorem X_alen (C : Cx k w cc own nL ret fr lo) (p0 : Nat) {n : Nat} (hp : p0 < wN w) (hs : wS w p0 = .inr (.inl (0, n))) {v : Int32} (hv : Int32.ofNat n = v) (hd : decode cc pc = .ok (.arraylength, 1)) (kk : X k w Z (pc + 1) ls (.int v :: st) h g) : X k w Z pc ls (.ref (wA w p0) :: st) h g := by
  obtain ⟨p, l, e, R, s, m, args, below, meth, c, A, cells, slots⟩ := k
  obtain ⟨hx, hb, hml, hown, hts, hr, hl0, hK, hij, hA, hR⟩ := C
  intro H locs arr hP hS hl
  have he : (wW w h g)[p0]? = some (wA w p0, .inl (wY_ w 0, n, .inl (h p0))) := by
    unfold wW; rw [wl_get hp, hs]; rfl
  exact va_alen hx hb hK hP p0 0 he rfl hv hd (kk H locs arr hP hS hl)
end XR
