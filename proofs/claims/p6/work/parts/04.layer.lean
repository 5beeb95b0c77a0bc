/-! OWN LAYER, 1: the words, the world by places, the judgement X over W -/
/-- what an int field or row of a place holds, what a long field holds -/
abbrev xI : Type := Nat → Nat → Int32
abbrev xJ : Type := Nat → Nat → Int64
def u2 {α : Type} (h : Nat → Nat → α) (p i : Nat) (v : α) : Nat → Nat → α := fun q j => if q = p ∧ j = i then v else h q j
theorem u2_s {α : Type} (h : Nat → Nat → α) (p i : Nat) (v : α) : u2 h p i v p i = v := by simp [u2]
theorem u2_p {α : Type} (h : Nat → Nat → α) {p q : Nat} (i j : Nat) (v : α) (hq : q ≠ p) : u2 h p i v q j = h q j := by simp [u2, hq]
theorem u2_i {α : Type} (h : Nat → Nat → α) (p q : Nat) {i j : Nat} (v : α) (hj : j ≠ i) : u2 h p i v q j = h q j := by simp [u2, hj]
/-- a place: an object (its class's number, its fields: 0 an int, 1 a long, k + 2 the place k), a row of ints (0) or booleans (1) of some length, a row of places -/
abbrev xS : Type := (Nat × List Nat) ⊕ (Nat × Nat) ⊕ List Nat
def fk (ad : Nat → Nat) (h : xI) (g : xJ) (p i : Nat) : Nat → Value
  | 0 => .int (h p i)
  | 1 => .long (g p i)
  | k + 2 => .ref (ad k)
def fl (ad : Nat → Nat) (h : xI) (g : xJ) (p : Nat) : Nat → List Nat → List Value
  | _, [] => []
  | i, t :: ts => fk ad h g p i t :: fl ad h g p (i + 1) ts
def ce (ay : Nat → ClassId) (ad : Nat → Nat) (h : xI) (g : xJ) (p : Nat) : xS → va_E
  | .inl o => .inr (o.1, fl ad h g p 0 o.2)
  | .inr (.inl r) => .inl (ay r.1, r.2, .inl (h p))
  | .inr (.inr ps) => .inl (ay 2, ps.length, .inr (.inr (.inr (.inr (fun i => (ps[i]?).map ad)))))
def wl (sh : Nat → xS) (N : Nat) (ay : Nat → ClassId) (ad : Nat → Nat) (h : xI) (g : xJ) : va_W := (List.range N).map (fun p => (ad p, ce ay ad h g p (sh p)))
theorem fl_get (ad : Nat → Nat) (h : xI) (g : xJ) (p : Nat) : ∀ (ts : List Nat) (i k t : Nat), ts[k]? = some t → (fl ad h g p i ts)[k]? = some (fk ad h g p (i + k) t)
  | [], i, k, t, e => by simp at e
  | s :: ts, i, 0, t, e => by
    have e2 : s = t := by simpa using e
    simp [fl, e2]
  | s :: ts, i, k + 1, t, e => by
    have e2 : ts[k]? = some t := by simpa using e
    have := fl_get ad h g p ts (i + 1) k t e2
    simp only [fl, List.getElem?_cons_succ]
    rw [this]
    congr 2
    omega
theorem fl_len (ad : Nat → Nat) (h : xI) (g : xJ) (p : Nat) : ∀ (ts : List Nat) (i : Nat), (fl ad h g p i ts).length = ts.length
  | [], i => rfl
  | s :: ts, i => by simp [fl, fl_len ad h g p ts (i + 1)]
theorem fl_cong (ad : Nat → Nat) (h h' : xI) (g g' : xJ) (p q : Nat) : ∀ (ts : List Nat) (i : Nat), (∀ k t, ts[k]? = some t → fk ad h g p (i + k) t = fk ad h' g' q (i + k) t) → fl ad h g p i ts = fl ad h' g' q i ts
  | [], i, _ => rfl
  | s :: ts, i, e => by
    have e0 := e 0 s rfl
    simp only [fl]
    rw [show fk ad h g p i s = fk ad h' g' q i s from e0]
    rw [fl_cong ad h h' g g' p q ts (i + 1) (fun k t hk => by have := e (k + 1) t (by simpa using hk); rw [show i + 1 + k = i + (k + 1) by omega]; exact this)]
theorem fl_setI (ad : Nat → Nat) (h : xI) (g : xJ) (p : Nat) (v : Int32) : ∀ (ts : List Nat) (i k : Nat), ts[k]? = some 0 → (fl ad h g p i ts).set k (.int v) = fl ad (u2 h p (i + k) v) g p i ts
  | [], i, k, e => by simp at e
  | s :: ts, i, 0, e => by
    have e2 : s = 0 := by simpa using e
    subst e2
    simp only [fl, List.set_cons_zero]
    congr 1
    · simp [fk, u2]
    · refine fl_cong ad _ _ _ _ p p ts (i + 1) (fun k t hk => ?_)
      match t with
      | 0 => simp only [fk]; rw [u2_i h p p v (by omega)]
      | 1 => rfl
      | t + 2 => rfl
  | s :: ts, i, k + 1, e => by
    have e2 : ts[k]? = some 0 := by simpa using e
    simp only [fl, List.set_cons_succ]
    rw [fl_setI ad h g p v ts (i + 1) k e2, show i + 1 + k = i + (k + 1) by omega]
    congr 1
    match s with
    | 0 => simp only [fk]; rw [u2_i h p p v (by omega)]
    | 1 => rfl
    | t + 2 => rfl
theorem fl_setJ (ad : Nat → Nat) (h : xI) (g : xJ) (p : Nat) (v : Int64) : ∀ (ts : List Nat) (i k : Nat), ts[k]? = some 1 → (fl ad h g p i ts).set k (.long v) = fl ad h (u2 g p (i + k) v) p i ts
  | [], i, k, e => by simp at e
  | s :: ts, i, 0, e => by
    have e2 : s = 1 := by simpa using e
    subst e2
    simp only [fl, List.set_cons_zero]
    congr 1
    · simp [fk, u2]
    · refine fl_cong ad _ _ _ _ p p ts (i + 1) (fun k t hk => ?_)
      match t with
      | 0 => rfl
      | 1 => simp only [fk]; rw [u2_i g p p v (by omega)]
      | t + 2 => rfl
  | s :: ts, i, k + 1, e => by
    have e2 : ts[k]? = some 1 := by simpa using e
    simp only [fl, List.set_cons_succ]
    rw [fl_setJ ad h g p v ts (i + 1) k e2, show i + 1 + k = i + (k + 1) by omega]
    congr 1
    match s with
    | 0 => rfl
    | 1 => simp only [fk]; rw [u2_i g p p v (by omega)]
    | t + 2 => rfl
section XWL
variable {sh : Nat → xS} {N : Nat} {ay : Nat → ClassId} {ad : Nat → Nat} {h h' : xI} {g g' : xJ}
theorem wl_get {p : Nat} (hp : p < N) : (wl sh N ay ad h g)[p]? = some (ad p, ce ay ad h g p (sh p)) := by
  simp [wl, hp]
theorem wl_inv {k : Nat} {q : Nat × va_E} (e : (wl sh N ay ad h g)[k]? = some q) : k < N ∧ q = (ad k, ce ay ad h g k (sh k)) := by
  rcases Nat.lt_or_ge k N with hk | hk
  · rw [wl_get hk] at e
    exact ⟨hk, (Option.some.inj e).symm⟩
  · have : (wl sh N ay ad h g)[k]? = none := by simp [wl, hk]
    rw [this] at e
    cases e
theorem wl_set {p : Nat} {e : va_E} (hp : p < N) (h0 : ∀ q, q < N → q ≠ p → ce ay ad h g q (sh q) = ce ay ad h' g' q (sh q)) (he : ce ay ad h' g' p (sh p) = e) : (wl sh N ay ad h g).set p (ad p, e) = wl sh N ay ad h' g' := by
  apply List.ext_getElem?
  intro i
  rw [List.getElem?_set]
  by_cases hi : p = i
  · subst hi
    have hlen : p < (wl sh N ay ad h g).length := by simp [wl, hp]
    simp only [hlen, if_true]
    rw [wl_get hp, he]
  · simp only [hi, if_false]
    rcases Nat.lt_or_ge i N with hiN | hiN
    · rw [wl_get hiN, wl_get hiN, h0 i hiN (fun q => hi q.symm)]
    · have e1 : (wl sh N ay ad h g)[i]? = none := by simp [wl, hiN]
      have e2 : (wl sh N ay ad h' g')[i]? = none := by simp [wl, hiN]
      rw [e1, e2]
/-- what a place holds when another place's ints change -/
theorem ce_u2 {p q i : Nat} {v : Int32} (hq : q ≠ p) (s : xS) : ce ay ad h g q s = ce ay ad (u2 h p i v) g q s := by
  match s with
  | .inl o =>
    simp only [ce]
    congr 2
    refine fl_cong ad _ _ _ _ q q o.2 0 (fun k t _ => ?_)
    match t with
    | 0 => simp only [fk]; rw [u2_p h i _ v hq]
    | 1 => rfl
    | t + 2 => rfl
  | .inr (.inl r) =>
    simp only [ce]
    congr 4
    funext j
    rw [u2_p h i j v hq]
  | .inr (.inr ps) => rfl
theorem ce_u2J {p q i : Nat} {v : Int64} (hq : q ≠ p) (s : xS) : ce ay ad h g q s = ce ay ad h (u2 g p i v) q s := by
  match s with
  | .inl o =>
    simp only [ce]
    congr 2
    refine fl_cong ad _ _ _ _ q q o.2 0 (fun k t _ => ?_)
    match t with
    | 0 => rfl
    | 1 => simp only [fk]; rw [u2_p g i _ v hq]
    | t + 2 => rfl
  | .inr (.inl r) => rfl
  | .inr (.inr ps) => rfl
theorem wl_putI {p k ci : Nat} {fs : List Nat} {v : Int32} (hp : p < N) (hs : sh p = .inl (ci, fs)) (hk : fs[k]? = some 0) : (wl sh N ay ad h g).set p (ad p, .inr (ci, (fl ad h g p 0 fs).set k (.int v))) = wl sh N ay ad (u2 h p k v) g := by
  refine wl_set hp (fun q _ hq => ce_u2 hq _) ?_
  rw [hs]
  simp only [ce]
  rw [fl_setI ad h g p v fs 0 k hk, Nat.zero_add]
theorem wl_putJ {p k ci : Nat} {fs : List Nat} {v : Int64} (hp : p < N) (hs : sh p = .inl (ci, fs)) (hk : fs[k]? = some 1) : (wl sh N ay ad h g).set p (ad p, .inr (ci, (fl ad h g p 0 fs).set k (.long v))) = wl sh N ay ad h (u2 g p k v) := by
  refine wl_set hp (fun q _ hq => ce_u2J hq _) ?_
  rw [hs]
  simp only [ce]
  rw [fl_setJ ad h g p v fs 0 k hk, Nat.zero_add]
theorem wl_putA {p j t n : Nat} {v : Int32} (hp : p < N) (hs : sh p = .inr (.inl (t, n))) : (wl sh N ay ad h g).set p (ad p, .inl (ay t, n, .inl (upd (h p) j v))) = wl sh N ay ad (u2 h p j v) g := by
  refine wl_set hp (fun q _ hq => ce_u2 hq _) ?_
  rw [hs]
  simp only [ce]
  congr 4
  funext i
  by_cases hi : i = j
  · subst hi; simp [u2, upd]
  · simp [u2, upd, hi]
end XWL
