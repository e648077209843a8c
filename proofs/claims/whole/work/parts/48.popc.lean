/-! Long.bitCount -/
def bsm : Nat → Nat → Nat
  | 0, _ => 0
  | k + 1, x => x % 2 + bsm k (x / 2)
def g1b (b : Nat) : Nat := b - (b / 2 &&& 85)
def g2b (b : Nat) : Nat := (b &&& 51) + (b / 4 &&& 51)
def g3b (b : Nat) : Nat := (b + b / 16) &&& 15
def pcb (b : Nat) : Nat := g3b (g2b (g1b b))
def mk1 : Nat → Nat
  | 0 => 0
  | m + 1 => 85 + 256 * mk1 m
def mk2 : Nat → Nat
  | 0 => 0
  | m + 1 => 51 + 256 * mk2 m
def mk3 : Nat → Nat
  | 0 => 0
  | m + 1 => 15 + 256 * mk3 m
def pF (m x : Nat) : Nat := x - (x / 2 &&& mk1 m)
def pG (m x : Nat) : Nat := (x &&& mk2 m) + (x / 4 &&& mk2 m)
def pH (m x : Nat) : Nat := (x + x / 16) &&& mk3 m
def pcs : Nat → Nat → Nat
  | 0, _ => 0
  | m + 1, x => pcb (x % 256) + 256 * pcs m (x / 256)
theorem and_byte {b c y z : Nat} (hb : b < 256) (hc : c < 256) : (b + 256 * y) &&& (c + 256 * z) = (b &&& c) + 256 * (y &&& z) := by
  have h1 : ((b + 256 * y) &&& (c + 256 * z)) % 256 = b &&& c := by
    have := Nat.and_mod_two_pow (a := b + 256 * y) (b := c + 256 * z) (n := 8)
    rw [show (2 : Nat) ^ 8 = 256 from rfl] at this
    rw [this, Nat.add_mul_mod_self_left, Nat.add_mul_mod_self_left, Nat.mod_eq_of_lt hb, Nat.mod_eq_of_lt hc]
  have h2 : ((b + 256 * y) &&& (c + 256 * z)) / 256 = y &&& z := by
    have := Nat.and_div_two_pow (a := b + 256 * y) (b := c + 256 * z) (n := 8)
    rw [show (2 : Nat) ^ 8 = 256 from rfl] at this
    rw [this, Nat.add_mul_div_left _ _ (by decide), Nat.add_mul_div_left _ _ (by decide), Nat.div_eq_of_lt hb, Nat.div_eq_of_lt hc, Nat.zero_add, Nat.zero_add]
  have h3 := Nat.mod_add_div ((b + 256 * y) &&& (c + 256 * z)) 256
  rw [h1, h2] at h3
  exact h3.symm
theorem low1 : ∀ b, b < 256 → ∀ e, e < 2 → (b / 2 + 128 * e) &&& 85 = b / 2 &&& 85 := by decide +kernel
theorem low2 : ∀ b, b < 256 → ∀ e, e < 4 → (b / 4 + 64 * e) &&& 51 = b / 4 &&& 51 := by decide +kernel
theorem low3 : ∀ b, b < 256 → b / 2 &&& 85 ≤ b ∧ g1b b < 256 ∧ pcb b ≤ 8 ∧ pcb b = bsm 8 b := by decide +kernel
theorem low5 : ∀ b, b < 256 → g2b (g1b b) % 16 ≤ 4 := by decide +kernel
theorem low6 : ∀ b, b < 256 → g1b b < 256 ∧ g2b (g1b b) ≤ 68 := by decide +kernel
theorem low4 : ∀ b, b ≤ 68 → ∀ e, e ≤ 4 → (b + b / 16 + 16 * e) &&& 15 = g3b b := by decide +kernel
theorem pF_byte {m b y : Nat} (hb : b < 256) : pF (m + 1) (b + 256 * y) = g1b b + 256 * pF m y := by
  have h1 : (b + 256 * y) / 2 = (b / 2 + 128 * (y % 2)) + 256 * (y / 2) := by omega
  have h2 : (b + 256 * y) / 2 &&& mk1 (m + 1) = (b / 2 &&& 85) + 256 * (y / 2 &&& mk1 m) := by
    rw [h1]
    show _ &&& (85 + 256 * mk1 m) = _
    rw [and_byte (by omega) (by decide), low1 b hb _ (Nat.mod_lt _ (by decide))]
  have h3 := (low3 b hb).1
  have h4 : y / 2 &&& mk1 m ≤ y := Nat.le_trans Nat.and_le_left (Nat.div_le_self _ _)
  unfold pF g1b
  rw [h2]
  omega
theorem pG_byte {m b y : Nat} (hb : b < 256) : pG (m + 1) (b + 256 * y) = g2b b + 256 * pG m y := by
  have h1 : (b + 256 * y) / 4 = (b / 4 + 64 * (y % 4)) + 256 * (y / 4) := by omega
  unfold pG g2b
  rw [h1]
  show (_ &&& (51 + 256 * mk2 m)) + (_ &&& (51 + 256 * mk2 m)) = _
  rw [and_byte hb (by decide), and_byte (by omega) (by decide), low2 b hb _ (Nat.mod_lt _ (by decide))]
  omega
theorem pH_byte {m b y : Nat} (hb : b ≤ 68) (hy : y % 16 ≤ 4) : pH (m + 1) (b + 256 * y) = g3b b + 256 * pH m y := by
  have h1 : (b + 256 * y) + (b + 256 * y) / 16 = (b + b / 16 + 16 * (y % 16)) + 256 * (y + y / 16) := by omega
  unfold pH
  rw [h1]
  show _ &&& (15 + 256 * mk3 m) = _
  rw [and_byte (by omega) (by decide), low4 b hb _ hy]
theorem pG_low {m y : Nat} : pG m (pF m y) % 16 ≤ 4 := by
  cases m with
  | zero => simp [pG, mk2]
  | succ m =>
    have hb := Nat.mod_lt y (show 256 > 0 by decide)
    have e : y = y % 256 + 256 * (y / 256) := (Nat.mod_add_div _ _).symm
    rw [e, pF_byte hb, pG_byte (low3 _ hb).2.1]
    have hmod : g2b (g1b (y % 256)) % 16 ≤ 4 := (low5 _ hb)
    omega
theorem pcs_eq : ∀ m x, x < 256 ^ m → pH m (pG m (pF m x)) = pcs m x := by
  intro m
  induction m with
  | zero => intro x _; simp [pH, mk3, pcs]
  | succ m ih =>
    intro x hx
    have hb := Nat.mod_lt x (show 256 > 0 by decide)
    have e : x = x % 256 + 256 * (x / 256) := (Nat.mod_add_div _ _).symm
    have h1 := low6 _ hb
    have hx2 : x / 256 < 256 ^ m := Nat.div_lt_of_lt_mul (by rw [Nat.pow_succ, Nat.mul_comm] at hx; exact hx)
    show _ = pcb (x % 256) + 256 * pcs m (x / 256)
    rw [← ih _ hx2]
    conv => lhs; rw [e]
    rw [pF_byte hb, pG_byte h1.1, pH_byte h1.2 pG_low]
    rfl
theorem bsm_add : ∀ k m x, bsm (k + m) x = bsm k x + bsm m (x / 2 ^ k) := by
  intro k
  induction k with
  | zero => intro m x; simp [bsm]
  | succ k ih =>
    intro m x
    rw [show k + 1 + m = (k + m) + 1 by omega]
    show x % 2 + bsm (k + m) (x / 2) = (x % 2 + bsm k (x / 2)) + _
    rw [ih, Nat.div_div_eq_div_mul, Nat.pow_succ, Nat.mul_comm 2, Nat.add_assoc]
theorem bsm_mod : ∀ k x, bsm k (x % 2 ^ k) = bsm k x := by
  intro k
  induction k with
  | zero => intro x; rfl
  | succ k ih =>
    intro x
    show x % 2 ^ (k + 1) % 2 + bsm k (x % 2 ^ (k + 1) / 2) = x % 2 + bsm k (x / 2)
    have h1 : x % 2 ^ (k + 1) % 2 = x % 2 := Nat.mod_mod_of_dvd _ ⟨2 ^ k, by rw [Nat.pow_succ, Nat.mul_comm]⟩
    have h2 : x % 2 ^ (k + 1) / 2 = x / 2 % 2 ^ k := by
      rw [Nat.pow_succ, Nat.mul_comm, Nat.mod_mul_right_div_self]
    rw [h1, h2, ih]
theorem bsm_8 (m x : Nat) : bsm (8 + m) x = pcb (x % 256) + bsm m (x / 256) := by
  rw [bsm_add, ← bsm_mod 8 x, (low3 _ (Nat.mod_lt x (show 256 > 0 by decide))).2.2.2]
theorem bsm_sum : ∀ k x, bsm k x = sumW (fun w => if x.testBit w then 1 else 0) k := by
  intro k
  induction k with
  | zero => intro x; rfl
  | succ k ih =>
    intro x
    rw [bsm_add k 1 x, ih]
    show _ + (x / 2 ^ k % 2 + 0) = _ + (if x.testBit k then 1 else 0)
    rw [Nat.testBit_eq_decide_div_mod_eq]
    have : x / 2 ^ k % 2 < 2 := Nat.mod_lt _ (by decide)
    by_cases h : x / 2 ^ k % 2 = 1
    · simp [h]
    · simp [h]; omega
theorem div32 {k0 k1 k2 k3 w0 w1 w2 w3 w4 : Nat} (h0 : k0 ≤ 32) (h1 : k1 ≤ 32) (h2 : k2 ≤ 32) (h3 : k3 ≤ 32) (u0 : w0 = k0 + 256 * w1) (u1 : w1 = k1 + 256 * w2) (u2 : w2 = k2 + 256 * w3) (u3 : w3 = k3 + 256 * w4) : w0 / 4294967296 = w4 := by
  have e : w0 = (k0 + 256 * k1 + 65536 * k2 + 16777216 * k3) + 4294967296 * w4 := by
    rw [u0, u1, u2, u3]
    clear u0 u1 u2 u3
    omega
  have hb : k0 + 256 * k1 + 65536 * k2 + 16777216 * k3 < 4294967296 := by
    clear e u0 u1 u2 u3
    omega
  rw [e, Nat.add_mul_div_left _ _ (by decide), Nat.div_eq_of_lt hb, Nat.zero_add]
theorem mod128 {k0 k4 w0 w1 w4 w5 : Nat} (h0 : k0 ≤ 32) (h4 : k4 ≤ 32) (u0 : w0 = k0 + 256 * w1) (u4 : w4 = k4 + 256 * w5) : (w0 + w4) % 128 = k0 + k4 := by
  omega
theorem pcs_fold {d0 d1 d2 d3 d4 d5 d6 d7 x3 : Nat} (h0 : d0 ≤ 8) (h1 : d1 ≤ 8) (h2 : d2 ≤ 8) (h3 : d3 ≤ 8) (h4 : d4 ≤ 8) (h5 : d5 ≤ 8) (h6 : d6 ≤ 8) (h7 : d7 ≤ 8)
  (hx : x3 = d0 + 256 * (d1 + 256 * (d2 + 256 * (d3 + 256 * (d4 + 256 * (d5 + 256 * (d6 + 256 * (d7 + 256 * 0)))))))) :
  x3 + x3 / 256 < 18446744073709551616 ∧ (x3 + x3 / 256) + (x3 + x3 / 256) / 65536 < 18446744073709551616 ∧ ((x3 + x3 / 256) + (x3 + x3 / 256) / 65536) + ((x3 + x3 / 256) + (x3 + x3 / 256) / 65536) / 4294967296 < 18446744073709551616 ∧ (((x3 + x3 / 256) + (x3 + x3 / 256) / 65536) + ((x3 + x3 / 256) + (x3 + x3 / 256) / 65536) / 4294967296) % 128 = d0 + d1 + d2 + d3 + d4 + d5 + d6 + d7 := by
  generalize e7 : d7 + 256 * 0 = y7 at hx
  generalize e6 : d6 + 256 * y7 = y6 at hx
  generalize e5 : d5 + 256 * y6 = y5 at hx
  generalize e4 : d4 + 256 * y5 = y4 at hx
  generalize e3 : d3 + 256 * y4 = y3 at hx
  generalize e2 : d2 + 256 * y3 = y2 at hx
  generalize e1 : d1 + 256 * y2 = y1 at hx
  have b7 : y7 ≤ 8 := by clear hx e6 e5 e4 e3 e2 e1; omega
  have b6 : y6 ≤ 2056 := by clear hx e7 e5 e4 e3 e2 e1; omega
  have b5 : y5 ≤ 526344 := by clear hx e7 e6 e4 e3 e2 e1; omega
  have b4 : y4 ≤ 134744072 := by clear hx e7 e6 e5 e3 e2 e1; omega
  have b3 : y3 ≤ 34494482440 := by clear hx e7 e6 e5 e4 e2 e1; omega
  have b2 : y2 ≤ 8830587504648 := by clear hx e7 e6 e5 e4 e3 e1; omega
  have b1 : y1 ≤ 2260630401189896 := by clear hx e7 e6 e5 e4 e3 e2; omega
  have b0 : x3 ≤ 578721382704613384 := by clear e7 e6 e5 e4 e3 e2 e1; omega
  have q1 : x3 / 256 = y1 := by clear e7 e6 e5 e4 e3 e2 e1 b7 b6 b5 b4 b3 b2; omega
  rw [q1]
  have z0 : x3 + y1 = (d0 + d1) + 256 * (y1 + y2) := by clear e7 e6 e5 e4 e3 e2 b7 b6 b5 b4 b3 b2 b1 b0 q1; omega
  have z1 : y1 + y2 = (d1 + d2) + 256 * (y2 + y3) := by clear hx e7 e6 e5 e4 e3 b7 b6 b5 b4 b3 b2 b1 b0 q1 z0; omega
  have z2 : y2 + y3 = (d2 + d3) + 256 * (y3 + y4) := by clear hx e7 e6 e5 e4 e1 b7 b6 b5 b4 b3 b2 b1 b0 q1 z0 z1; omega
  have z3 : y3 + y4 = (d3 + d4) + 256 * (y4 + y5) := by clear hx e7 e6 e5 e2 e1 b7 b6 b5 b4 b3 b2 b1 b0 q1 z0 z1 z2; omega
  have z4 : y4 + y5 = (d4 + d5) + 256 * (y5 + y6) := by clear hx e7 e6 e3 e2 e1 b7 b6 b5 b4 b3 b2 b1 b0 q1 z0 z1 z2 z3; omega
  have z5 : y5 + y6 = (d5 + d6) + 256 * (y6 + y7) := by clear hx e7 e4 e3 e2 e1 b7 b6 b5 b4 b3 b2 b1 b0 q1 z0 z1 z2 z3 z4; omega
  have z6 : y6 + y7 = (d6 + d7) + 256 * y7 := by clear hx e5 e4 e3 e2 e1 b7 b6 b5 b4 b3 b2 b1 b0 q1 z0 z1 z2 z3 z4 z5; omega
  clear hx e7 e6 e5 e4 e3 e2 e1 q1
  generalize g0 : x3 + y1 = a0 at *
  generalize g1 : y1 + y2 = a1 at *
  generalize g2 : y2 + y3 = a2 at *
  generalize g3 : y3 + y4 = a3 at *
  generalize g4 : y4 + y5 = a4 at *
  generalize g5 : y5 + y6 = a5 at *
  generalize g6 : y6 + y7 = a6 at *
  have q2 : a0 / 65536 = a2 := by clear g0 g1 g2 g3 g4 g5 g6 z2 z3 z4 z5 z6 b7 b6 b5 b4 b3 b2 b1 b0; omega
  rw [q2]
  have c0 : a0 ≤ 580982013105803280 := by rw [← g0]; exact Nat.add_le_add b0 b1
  have c2 : a2 ≤ 8865081987088 := by rw [← g2]; exact Nat.add_le_add b2 b3
  have c4 : a4 ≤ 135270416 := by rw [← g4]; exact Nat.add_le_add b4 b5
  have c6 : a6 ≤ 2064 := by rw [← g6]; exact Nat.add_le_add b6 b7
  clear g0 g1 g2 g3 g4 g5 g6 b6 b5 b4 b3 b2 b1 b0
  have u0 : a0 + a2 = (d0 + d1 + (d2 + d3)) + 256 * (a1 + a3) := by clear z1 z3 z4 z5 z6 c0 c2 c4 c6 q2; omega
  have u1 : a1 + a3 = (d1 + d2 + (d3 + d4)) + 256 * (a2 + a4) := by clear z0 z2 z4 z5 z6 c0 c2 c4 c6 q2 u0; omega
  have u2 : a2 + a4 = (d2 + d3 + (d4 + d5)) + 256 * (a3 + a5) := by clear z0 z1 z3 z5 z6 c0 c2 c4 c6 q2 u0 u1; omega
  have u3 : a3 + a5 = (d3 + d4 + (d5 + d6)) + 256 * (a4 + a6) := by clear z0 z1 z2 z4 z6 c0 c2 c4 c6 q2 u0 u1 u2; omega
  have u4 : a4 + a6 = (d4 + d5 + (d6 + d7)) + 256 * (a5 + y7) := by clear z0 z1 z2 z3 z5 c0 c2 c4 c6 q2 u0 u1 u2 u3; omega
  clear z0 z1 z2 z3 z4 z5 z6 q2
  have d46 : a4 + a6 ≤ 135272480 := Nat.add_le_add c4 c6
  have d02 : a0 + a2 ≤ 580990878187790368 := Nat.add_le_add c0 c2
  have c0' : a0 < 18446744073709551616 := Nat.lt_of_le_of_lt c0 (by decide)
  generalize g0 : a0 + a2 = w0 at *
  generalize g1 : a1 + a3 = w1 at *
  generalize g2 : a2 + a4 = w2 at *
  generalize g3 : a3 + a5 = w3 at *
  generalize g4 : a4 + a6 = w4 at *
  generalize g5 : a5 + y7 = w5 at *
  clear g0 g1 g2 g3 g4 g5
  have q3 : w0 / 4294967296 = w4 := div32 (by clear u0 u1 u2 u3 u4; omega) (by clear u0 u1 u2 u3 u4; omega) (by clear u0 u1 u2 u3 u4; omega) (by clear u0 u1 u2 u3 u4; omega) u0 u1 u2 u3
  rw [q3]
  refine ⟨c0', Nat.lt_of_le_of_lt d02 (by decide), Nat.lt_of_le_of_lt (Nat.add_le_add d02 d46) (by decide), ?_⟩
  rw [mod128 (by clear u0 u1 u2 u3 u4; omega) (by clear u0 u1 u2 u3 u4; omega) u0 u4]
  clear u0 u1 u2 u3 u4
  omega
