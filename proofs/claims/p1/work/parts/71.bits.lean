/-! PHASE 3, pure: how many bits (the JDK's bitCount) -/
theorem land8 {a b c d : Nat} (hb : b < 256) (hd : d < 256) : (256 * a + b) &&& (256 * c + d) = 256 * (a &&& c) + (b &&& d) := by
  have h1 := Nat.and_div_two_pow (a := 256 * a + b) (b := 256 * c + d) (n := 8)
  have h2 := Nat.and_mod_two_pow (a := 256 * a + b) (b := 256 * c + d) (n := 8)
  rw [show (2 : Nat) ^ 8 = 256 from rfl] at h1 h2
  rw [show (256 * a + b) / 256 = a by omega, show (256 * c + d) / 256 = c by omega] at h1
  rw [show (256 * a + b) % 256 = b by omega, show (256 * c + d) % 256 = d by omega] at h2
  omega
theorem nI_and (a b : Nat) : nI a &&& nI b = nI (a &&& b) := by
  apply Int32.toBitVec_inj.mp
  show BitVec.ofNat 32 a &&& BitVec.ofNat 32 b = BitVec.ofNat 32 (a &&& b)
  exact (BitVec.ofNat_and ..).symm
def bc1 (b : Nat) : Nat := b - (b / 2 &&& 85)
def bc2 (b : Nat) : Nat := (b &&& 51) + (b / 4 &&& 51)
def bc3 (b : Nat) : Nat := (b + b / 16) &&& 15
theorem bc_a : ∀ b, b < 256 → ∀ t, t < 2 → ((b / 2 + 128 * t) &&& 85 = (b / 2 &&& 85) ∧ (b / 2 &&& 85) ≤ b ∧ bc1 b < 256) := by decide +kernel
theorem bc_b : ∀ b, b < 256 → ∀ t, t < 4 → ((b / 4 + 64 * t) &&& 51 = (b / 4 &&& 51) ∧ (b &&& 51) + (b / 4 &&& 51) < 256) := by decide +kernel
theorem bc_c : ∀ b, b < 256 → (bc2 (bc1 b) ≤ 68 ∧ bc2 (bc1 b) % 16 ≤ 4 ∧ bc3 (bc2 (bc1 b)) ≤ 8 ∧ bc3 (bc2 (bc1 b)) = b % 2 + b / 2 % 2 + b / 4 % 2 + b / 8 % 2 + b / 16 % 2 + b / 32 % 2 + b / 64 % 2 + b / 128 % 2) := by decide +kernel
theorem bc_d : ∀ b, b ≤ 68 → ∀ t, t ≤ 4 → (b + b / 16 + 16 * t) &&& 15 = bc3 b := by decide +kernel
def by4 (b0 b1 b2 b3 : Nat) : Nat := 256 * (256 * (256 * b3 + b2) + b1) + b0
theorem btA {b0 b1 b2 b3 : Nat} (h0 : b0 < 256) (h1 : b1 < 256) (h2 : b2 < 256) (h3 : b3 < 256) : by4 b0 b1 b2 b3 - (by4 b0 b1 b2 b3 / 2 &&& 1431655765) = by4 (bc1 b0) (bc1 b1) (bc1 b2) (bc1 b3) ∧ (by4 b0 b1 b2 b3 / 2 &&& 1431655765) ≤ by4 b0 b1 b2 b3 := by
  have a0 := bc_a b0 h0 (b1 % 2) (by omega)
  have a1 := bc_a b1 h1 (b2 % 2) (by omega)
  have a2 := bc_a b2 h2 (b3 % 2) (by omega)
  have a3 := bc_a b3 h3 0 (by omega)
  have e : by4 b0 b1 b2 b3 / 2 = 256 * (256 * (256 * (b3 / 2 + 128 * 0) + (b2 / 2 + 128 * (b3 % 2))) + (b1 / 2 + 128 * (b2 % 2))) + (b0 / 2 + 128 * (b1 % 2)) := by unfold by4; omega
  have f : (by4 b0 b1 b2 b3 / 2 &&& 1431655765) = 256 * (256 * (256 * (b3 / 2 &&& 85) + (b2 / 2 &&& 85)) + (b1 / 2 &&& 85)) + (b0 / 2 &&& 85) := by
    rw [e, show 1431655765 = 256 * (256 * (256 * 85 + 85) + 85) + 85 from rfl, land8 (by omega) (by omega), land8 (by omega) (by omega), land8 (by omega) (by omega), a0.1, a1.1, a2.1, a3.1]
  rw [f]
  unfold by4 bc1
  omega
theorem btB {b0 b1 b2 b3 : Nat} (h0 : b0 < 256) (h1 : b1 < 256) (h2 : b2 < 256) (h3 : b3 < 256) : (by4 b0 b1 b2 b3 &&& 858993459) + (by4 b0 b1 b2 b3 / 4 &&& 858993459) = by4 (bc2 b0) (bc2 b1) (bc2 b2) (bc2 b3) := by
  have a0 := bc_b b0 h0 (b1 % 4) (by omega)
  have a1 := bc_b b1 h1 (b2 % 4) (by omega)
  have a2 := bc_b b2 h2 (b3 % 4) (by omega)
  have a3 := bc_b b3 h3 0 (by omega)
  have e : by4 b0 b1 b2 b3 / 4 = 256 * (256 * (256 * (b3 / 4 + 64 * 0) + (b2 / 4 + 64 * (b3 % 4))) + (b1 / 4 + 64 * (b2 % 4))) + (b0 / 4 + 64 * (b1 % 4)) := by unfold by4; omega
  have f : (by4 b0 b1 b2 b3 / 4 &&& 858993459) = 256 * (256 * (256 * (b3 / 4 &&& 51) + (b2 / 4 &&& 51)) + (b1 / 4 &&& 51)) + (b0 / 4 &&& 51) := by
    rw [e, show 858993459 = 256 * (256 * (256 * 51 + 51) + 51) + 51 from rfl, land8 (by omega) (by omega), land8 (by omega) (by omega), land8 (by omega) (by omega), a0.1, a1.1, a2.1, a3.1]
  have g : (by4 b0 b1 b2 b3 &&& 858993459) = 256 * (256 * (256 * (b3 &&& 51) + (b2 &&& 51)) + (b1 &&& 51)) + (b0 &&& 51) := by
    unfold by4
    rw [show 858993459 = 256 * (256 * (256 * 51 + 51) + 51) + 51 from rfl, land8 (by omega) (by omega), land8 (by omega) (by omega), land8 (by omega) (by omega)]
  rw [f, g]
  unfold by4 bc2
  omega
theorem btC {b0 b1 b2 b3 : Nat} (h0 : b0 ≤ 68) (h1 : b1 ≤ 68) (h2 : b2 ≤ 68) (h3 : b3 ≤ 68) (g1 : b1 % 16 ≤ 4) (g2 : b2 % 16 ≤ 4) (g3 : b3 % 16 ≤ 4) : (by4 b0 b1 b2 b3 + by4 b0 b1 b2 b3 / 16) &&& 252645135 = by4 (bc3 b0) (bc3 b1) (bc3 b2) (bc3 b3) := by
  have e : by4 b0 b1 b2 b3 + by4 b0 b1 b2 b3 / 16 = 256 * (256 * (256 * (b3 + b3 / 16 + 16 * 0) + (b2 + b2 / 16 + 16 * (b3 % 16))) + (b1 + b1 / 16 + 16 * (b2 % 16))) + (b0 + b0 / 16 + 16 * (b1 % 16)) := by unfold by4; omega
  rw [e, show 252645135 = 256 * (256 * (256 * 15 + 15) + 15) + 15 from rfl, land8 (by omega) (by omega), land8 (by omega) (by omega), land8 (by omega) (by omega), bc_d b0 h0 _ g1, bc_d b1 h1 _ g2, bc_d b2 h2 _ g3, bc_d b3 h3 0 (by omega)]
  rfl
/-- what the JDK reckons -/
def bx1 (x : Nat) : Nat := x - (x / 2 &&& 1431655765)
def bx2 (x : Nat) : Nat := (x &&& 858993459) + (x / 4 &&& 858993459)
def bx3 (x : Nat) : Nat := (x + x / 16) &&& 252645135
def bx4 (x : Nat) : Nat := x + x / 256
def bx5 (x : Nat) : Nat := (x + x / 65536) &&& 63
def bcK (K : Nat) : Nat := bx5 (bx4 (bx3 (bx2 (bx1 K))))
def b8s (b : Nat) : Nat := b % 2 + b / 2 % 2 + b / 4 % 2 + b / 8 % 2 + b / 16 % 2 + b / 32 % 2 + b / 64 % 2 + b / 128 % 2
theorem bs_8 {a b : Nat} : bs (256 * a + b) 8 = b8s b := by
  show 0 + (256 * a + b) / 1 % 2 + (256 * a + b) / 2 % 2 + (256 * a + b) / 4 % 2 + (256 * a + b) / 8 % 2 + (256 * a + b) / 16 % 2 + (256 * a + b) / 32 % 2 + (256 * a + b) / 64 % 2 + (256 * a + b) / 128 % 2 = _
  unfold b8s
  rw [show (256 * a + b) / 1 % 2 = b % 2 by omega, show (256 * a + b) / 2 % 2 = b / 2 % 2 by omega, show (256 * a + b) / 4 % 2 = b / 4 % 2 by omega, show (256 * a + b) / 8 % 2 = b / 8 % 2 by omega, show (256 * a + b) / 16 % 2 = b / 16 % 2 by omega, show (256 * a + b) / 32 % 2 = b / 32 % 2 by omega, show (256 * a + b) / 64 % 2 = b / 64 % 2 by omega, show (256 * a + b) / 128 % 2 = b / 128 % 2 by omega, Nat.zero_add]
theorem bs_sh {a b : Nat} (hb : b < 256) : ∀ n, bs (256 * a + b) (8 + n) = b8s b + bs a n
  | 0 => by rw [Nat.add_zero, bs_8]; rfl
  | n + 1 => by
    show bs (256 * a + b) (8 + n) + (256 * a + b) / 2 ^ (8 + n) % 2 = b8s b + (bs a n + a / 2 ^ n % 2)
    rw [bs_sh hb n, Nat.pow_add, ← Nat.div_div_eq_div_mul, show (2 : Nat) ^ 8 = 256 from rfl, show (256 * a + b) / 256 = a by omega, Nat.add_assoc]
theorem bs_25 {b0 b1 b2 b3 : Nat} (h0 : b0 < 256) (h1 : b1 < 256) (h2 : b2 < 256) (h3 : b3 < 2) : bs (by4 b0 b1 b2 b3) 25 = b8s b0 + (b8s b1 + (b8s b2 + b8s b3)) := by
  unfold by4
  rw [show 25 = 8 + 17 from rfl, bs_sh h0, show 17 = 8 + 9 from rfl, bs_sh h1, show 9 = 8 + 1 from rfl, bs_sh h2]
  have e : bs b3 1 = b8s b3 := by
    rcases (show b3 = 0 ∨ b3 = 1 by omega) with rfl | rfl <;> rfl
  rw [e]
theorem bc_x {d0 d1 d2 d3 : Nat} (h0 : d0 ≤ 8) (h1 : d1 ≤ 8) (h2 : d2 ≤ 8) (h3 : d3 ≤ 8) : (by4 d0 d1 d2 d3 + by4 d0 d1 d2 d3 / 256 + (by4 d0 d1 d2 d3 + by4 d0 d1 d2 d3 / 256) / 65536) &&& 63 = d0 + (d1 + (d2 + d3)) := by
  have e1 : by4 d0 d1 d2 d3 / 256 = 256 * (256 * d3 + d2) + d1 := by unfold by4; omega
  rw [e1]
  have e2 : by4 d0 d1 d2 d3 + (256 * (256 * d3 + d2) + d1) = 65536 * (256 * d3 + (d2 + d3)) + (256 * (d1 + d2) + (d0 + d1)) := by unfold by4; omega
  rw [e2]
  have e3 : (65536 * (256 * d3 + (d2 + d3)) + (256 * (d1 + d2) + (d0 + d1))) / 65536 = 256 * d3 + (d2 + d3) := by omega
  rw [e3, show (63 : Nat) = 2 ^ 6 - 1 from rfl, Nat.and_two_pow_sub_one_eq_mod, show (2 : Nat) ^ 6 = 64 from rfl]
  omega
theorem bcK_e {K : Nat} (hK : K < 33554432) : bcK K = bs K 25 := by
  obtain ⟨b0, h0⟩ : ∃ b, b = K % 256 := ⟨_, rfl⟩
  obtain ⟨b1, h1⟩ : ∃ b, b = K / 256 % 256 := ⟨_, rfl⟩
  obtain ⟨b2, h2⟩ : ∃ b, b = K / 65536 % 256 := ⟨_, rfl⟩
  obtain ⟨b3, h3⟩ : ∃ b, b = K / 16777216 := ⟨_, rfl⟩
  have l0 : b0 < 256 := by omega
  have l1 : b1 < 256 := by omega
  have l2 : b2 < 256 := by omega
  have l3 : b3 < 2 := by omega
  have e : K = by4 b0 b1 b2 b3 := by unfold by4; omega
  rw [e]
  clear h0 h1 h2 h3 e hK
  have c0 := bc_c b0 l0
  have c1 := bc_c b1 l1
  have c2 := bc_c b2 l2
  have c3 := bc_c b3 (by omega)
  have r0 := (bc_a b0 l0 0 (by omega)).2.2
  have r1 := (bc_a b1 l1 0 (by omega)).2.2
  have r2 := (bc_a b2 l2 0 (by omega)).2.2
  have r3 := (bc_a b3 (by omega) 0 (by omega)).2.2
  rw [bs_25 l0 l1 l2 l3]
  have e1 : bx1 (by4 b0 b1 b2 b3) = by4 (bc1 b0) (bc1 b1) (bc1 b2) (bc1 b3) := (btA l0 l1 l2 (by omega)).1
  have e2 : bx2 (by4 (bc1 b0) (bc1 b1) (bc1 b2) (bc1 b3)) = by4 (bc2 (bc1 b0)) (bc2 (bc1 b1)) (bc2 (bc1 b2)) (bc2 (bc1 b3)) := btB r0 r1 r2 r3
  have e3 : bx3 (by4 (bc2 (bc1 b0)) (bc2 (bc1 b1)) (bc2 (bc1 b2)) (bc2 (bc1 b3))) = by4 (bc3 (bc2 (bc1 b0))) (bc3 (bc2 (bc1 b1))) (bc3 (bc2 (bc1 b2))) (bc3 (bc2 (bc1 b3))) := btC c0.1 c1.1 c2.1 c3.1 c1.2.1 c2.2.1 c3.2.1
  have e4 := bc_x c0.2.2.1 c1.2.2.1 c2.2.2.1 c3.2.2.1
  unfold bcK
  rw [e1, e2, e3]
  refine Eq.trans (show bx5 (bx4 _) = _ from e4) ?_
  rw [c0.2.2.2, c1.2.2.2, c2.2.2.2, c3.2.2.2]
  rfl
