/-! bits of longs and of small ints -/
def tb (x : Int64) (w : Nat) : Bool := x.toBitVec.getLsbD w
theorem tb_or (x y : Int64) (w : Nat) : tb (x ||| y) w = (tb x w || tb y w) := by simp [tb]
theorem tb_and (x y : Int64) (w : Nat) : tb (x &&& y) w = (tb x w && tb y w) := by simp [tb]
theorem tb_xor (x y : Int64) (w : Nat) : tb (x ^^^ y) w = (tb x w ^^ tb y w) := by simp [tb]
theorem tb_big {x : Int64} {w : Nat} (h : 64 ≤ w) : tb x w = false := BitVec.getLsbD_of_ge _ _ h
theorem tb_ext {x y : Int64} (h : ∀ w, w < 64 → tb x w = tb y w) : x = y := by
  have e : x.toBitVec = y.toBitVec := BitVec.eq_of_getLsbD_eq fun i hi => h i hi
  exact Int64.toBitVec_inj.mp e
theorem tb_0 (w : Nat) : tb 0 w = false := by simp [tb]
theorem tb_m1 : ∀ w, w < 64 → tb (-1) w = true := by decide +kernel
theorem tb_1 (w : Nat) : tb 1 w = decide (w = 0) := by
  by_cases h : w < 64
  · revert h; revert w; decide +kernel
  · rw [tb_big (by omega)]
    simp; omega
theorem tb_not {x : Int64} {w : Nat} (h : w < 64) : tb (x ^^^ -1) w = !tb x w := by rw [tb_xor, tb_m1 w h]; simp
theorem tb_ne0 (x : Int64) : (¬ x = 0) ↔ ∃ w, w < 64 ∧ tb x w = true := by
  constructor
  · intro h
    apply Classical.byContradiction
    intro hn
    exact h (tb_ext fun w hw => by
      rw [tb_0]
      cases hx : tb x w with
      | false => rfl
      | true => exact absurd ⟨w, hw, hx⟩ hn)
  · rintro ⟨w, hw, h⟩ rfl
    rw [tb_0] at h
    cases h
theorem sh63 : ∀ k, k < 64 → (((nI k).toInt64 &&& 63).toBitVec.smod 64) = BitVec.ofNat 64 k := by decide +kernel
theorem su63 : ∀ k, k < 64 → (((nI k).toInt64.toUInt64 &&& Int64.toUInt64 63).toBitVec % 64) = BitVec.ofNat 64 k := by decide +kernel
theorem tb_shl {x : Int64} {k v : Nat} (hk : k < 64) : tb (x <<< ((nI k).toInt64 &&& 63)) v = (decide (v < 64) && (decide (k ≤ v) && tb x (v - k))) := by
  unfold tb
  rw [Int64.toBitVec_shiftLeft, sh63 k hk, BitVec.shiftLeft_eq', BitVec.toNat_ofNat, Nat.mod_eq_of_lt (by omega), BitVec.getLsbD_shiftLeft]
  by_cases h : v < k
  · simp [h, Nat.not_le.mpr h]
  · simp [h, Nat.not_lt.mp h]
theorem tb_ushr {x : Int64} {k v : Nat} (hk : k < 64) : tb ((x.toUInt64 >>> ((nI k).toInt64.toUInt64 &&& Int64.toUInt64 63)).toInt64) v = tb x (k + v) := by
  unfold tb
  rw [UInt64.toBitVec_toInt64, UInt64.toBitVec_shiftRight, su63 k hk, BitVec.ushiftRight_eq', BitVec.toNat_ofNat, Nat.mod_eq_of_lt (by omega), BitVec.getLsbD_ushiftRight, Int64.toBitVec_toUInt64]
/-- set >>> w & 1 -/
theorem tb_in {x : Int64} {k : Nat} (hk : k < 64) : (x.toUInt64 >>> ((nI k).toInt64.toUInt64 &&& Int64.toUInt64 63)).toInt64 &&& 1 = if tb x k then 1 else 0 := by
  apply tb_ext
  intro w hw
  rw [tb_and, tb_ushr hk, tb_1]
  by_cases h0 : w = 0
  · subst h0
    cases h : tb x k <;> simp [h, tb_0, tb_1]
  · cases h : tb x k <;> simp [h0, tb_0, tb_1]
theorem tb_in0 {x : Int64} {k : Nat} (hk : k < 64) : lg_cmp ((x.toUInt64 >>> ((nI k).toInt64.toUInt64 &&& Int64.toUInt64 63)).toInt64 &&& 1) 0 = 0 ↔ tb x k = false := by
  rw [lg_cmp0, tb_in hk]
  cases tb x k <;> decide
/-- 1 << k -/
theorem tb_1shl {k v : Nat} (hk : k < 64) : tb ((1 : Int64) <<< ((nI k).toInt64 &&& 63)) v = decide (v = k) := by
  rw [tb_shl hk, tb_1]
  by_cases h : v = k
  · subst h; simp [hk]
  · by_cases h2 : v < 64
    · by_cases h3 : k ≤ v
      · simp [h, h2, h3]; omega
      · simp [h, h3]
    · simp [h, h2]
/-- (1L << k) - 1 -/
theorem tb_mask : ∀ k, k < 64 → ∀ v, v < 64 → tb (((1 : Int64) <<< ((nI k).toInt64 &&& 63)) - 1) v = decide (v < k) := by decide +kernel
/-! small ints -/
theorem si31 : ∀ k, k < 32 → ((nI k &&& 31).toBitVec.smod 32).toNat = k := by decide +kernel
theorem ib_in {s k : Nat} (hs : s < 2147483648) (hk : k < 31) : (nI s >>> (nI k &&& 31)) &&& nI 1 = nI (s / 2 ^ k % 2) := by
  rw [pk_shrN hs _ k (si31 k (by omega))]
  have h1 : s / 2 ^ k ≤ s := Nat.div_le_self _ _
  exact pk_andN (n := s / 2 ^ k) (by omega) (m := nI 1) 1 (by decide)
theorem ib_shl {a k : Nat} (hk : k < 32) (h : a * 2 ^ k < 2147483648) : nI a <<< (nI k &&& 31) = nI (a * 2 ^ k) := pk_shlN _ k (si31 k hk) (by omega)
theorem ib_shr {a k : Nat} (hk : k < 32) (h : a < 2147483648) : nI a >>> (nI k &&& 31) = nI (a / 2 ^ k) := pk_shrN h _ k (si31 k hk)
theorem ib_and3 {a : Nat} (h : a < 2147483648) : nI a &&& nI 3 = nI (a % 4) := pk_andN (by omega) 2 (by decide)
