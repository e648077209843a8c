/-! Household.add -/
theorem wys_congr {mm mm' : Nat → Nat} : ∀ {n : Nat}, (∀ i, i < n → mm' i = mm i) → wys mm' n = wys mm n := by
  intro n
  induction n with
  | zero => intro _; rfl
  | succ n ih => intro h; simp only [wys, ih fun i hi => h i (by omega), h n (by omega)]
theorem dgt_congr {mm mm' : Nat → Nat} {n t : Nat} (h : ∀ i, i < n → mm' i = mm i) (ht : t < n) (w : Nat) : dgt mm' w t = dgt mm w t := by
  unfold dgt
  rw [wys_congr (n := t) fun i hi => h i (by omega), h t ht]
theorem nxt_congr {kd kd' mm mm' : Nat → Nat} : ∀ {n : Nat}, (∀ i, i < n → mm' i = mm i) → (∀ i, i < n → kd' i = kd i) → ∀ w v, nxt kd' mm' n w v = nxt kd mm n w v := by
  intro n
  induction n with
  | zero => intro _ _ w v; rfl
  | succ n ih => intro h h2 w v; simp only [nxt, ih (fun i hi => h i (by omega)) (fun i hi => h2 i (by omega)), h n (by omega), h2 n (by omega), dgt_congr h (show n < n + 1 by omega)]
theorem lwf_congr {kd kd' mm mm' : Nat → Nat} : ∀ {n : Nat}, (∀ i, i < n → mm' i = mm i) → (∀ i, i < n → kd' i = kd i) → ∀ w, lwf kd' mm' n w = lwf kd mm n w := by
  intro n
  induction n with
  | zero => intro _ _ w; rfl
  | succ n ih => intro h h2 w; simp only [lwf, ih (fun i hi => h i (by omega)) (fun i hi => h2 i (by omega)), h2 n (by omega), dgt_congr h (show n < n + 1 by omega)]
theorem fig_congr {mm mm' : Nat → Nat} : ∀ {n : Nat}, (∀ i, i < n → mm' i = mm i) → ∀ w, fig mm' n w = fig mm n w := by
  intro n
  induction n with
  | zero => intro _ w; rfl
  | succ n ih => intro h w; simp only [fig, ih (fun i hi => h i (by omega)), dgt_congr h (show n < n + 1 by omega)]
/-- a function with one value more -/
def fup (f : Nat → Nat) (n v : Nat) : Nat → Nat := fun i => if i = n then v else f i
theorem fup_lt {f : Nat → Nat} {n v i : Nat} (h : i < n) : fup f n v i = f i := by unfold fup; rw [if_neg (by omega)]
theorem fup_eq {f : Nat → Nat} {n v : Nat} : fup f n v n = v := if_pos rfl
/-- bits of a spread set, way by way -/
theorem spr_way {mm : Nat → Nat} {n m : Nat} (ho : okm mm n) (hm : m ≤ 4) (hWm : wys mm n * m ≤ 64) {set : Int64} {f : Nat → Bool} {st : Nat} (hst : ∀ k, k < 4 → st / 2 ^ k % 2 = (if k < m ∧ f k = true then 1 else 0)) (hset : ∀ v, wys mm n ≤ v → v < 64 → tb set v = false) {w k : Nat} (hw : w < wys mm n) (hk : k < m) :
    tb (sprI (wys mm n) set st 4) (w + wys mm n * k) = (f k && tb set w) := by
  have hp := wys_pos ho
  have hWk : wys mm n * (k + 1) ≤ 64 := Nat.le_trans (Nat.mul_le_mul_left _ hk) hWm
  rw [Nat.mul_add, Nat.mul_one] at hWk
  rw [spr_bits (fun k' hk' h => by
    rw [hst k' hk'] at h
    have h2 : k' < m := by
      by_cases e : k' < m ∧ f k' = true
      · exact e.1
      · rw [if_neg e] at h; cases h
    have h3 : wys mm n * (k' + 1) ≤ 64 := Nat.le_trans (Nat.mul_le_mul_left _ h2) hWm
    rw [Nat.mul_add, Nat.mul_one] at h3
    omega) (by omega) _ (by omega)]
  rw [Bool.eq_iff_iff, exb_iff]
  constructor
  · rintro ⟨i, hi, h⟩
    simp only [Bool.and_eq_true, decide_eq_true_eq] at h
    obtain ⟨h1, h2, h3⟩ := h
    rw [hst i hi] at h1
    have h4 : i < m ∧ f i = true := by
      by_cases e : i < m ∧ f i = true
      · exact e
      · rw [if_neg e] at h1; cases h1
    have h5 : i = k := by
      by_cases e1 : i < k
      · exfalso
        have h6 : wys mm n * (i + 1) ≤ wys mm n * k := Nat.mul_le_mul_left _ e1
        rw [Nat.mul_add, Nat.mul_one] at h6
        rw [hset _ (by omega) (by omega)] at h3
        cases h3
      · by_cases e2 : k < i
        · exfalso
          have h6 : wys mm n * (k + 1) ≤ wys mm n * i := Nat.mul_le_mul_left _ e2
          rw [Nat.mul_add, Nat.mul_one] at h6
          omega
        · omega
    subst h5
    rw [show w + wys mm n * i - wys mm n * i = w by omega] at h3
    simp [h4.2, h3]
  · intro h
    simp only [Bool.and_eq_true] at h
    refine ⟨k, by omega, ?_⟩
    rw [hst k (by omega), if_pos ⟨hk, h.1⟩, show w + wys mm n * k - wys mm n * k = w by omega]
    simp [h.2]
theorem spr_big {mm : Nat → Nat} {n m : Nat} (ho : okm mm n) (hm : m ≤ 4) (hWm : wys mm n * m ≤ 64) {set : Int64} {f : Nat → Bool} {st : Nat} (hst : ∀ k, k < 4 → st / 2 ^ k % 2 = (if k < m ∧ f k = true then 1 else 0)) (hset : ∀ v, wys mm n ≤ v → v < 64 → tb set v = false) {v : Nat} (hv : wys mm n * m ≤ v) (hv2 : v < 64) :
    tb (sprI (wys mm n) set st 4) v = false := by
  have hp := wys_pos ho
  rw [spr_bits (fun k' hk' h => by
    rw [hst k' hk'] at h
    have h2 : k' < m := by
      by_cases e : k' < m ∧ f k' = true
      · exact e.1
      · rw [if_neg e] at h; cases h
    have h3 : wys mm n * (k' + 1) ≤ 64 := Nat.le_trans (Nat.mul_le_mul_left _ h2) hWm
    rw [Nat.mul_add, Nat.mul_one] at h3
    omega) (by omega) _ hv2]
  rw [← Bool.not_eq_true, exb_iff]
  rintro ⟨i, hi, h⟩
  simp only [Bool.and_eq_true, decide_eq_true_eq] at h
  obtain ⟨h1, h2, h3⟩ := h
  rw [hst i hi] at h1
  have h4 : i < m := by
    by_cases e : i < m ∧ f i = true
    · exact e.1
    · rw [if_neg e] at h1; cases h1
  have h6 : wys mm n * (i + 1) ≤ wys mm n * m := Nat.mul_le_mul_left _ h4
  rw [Nat.mul_add, Nat.mul_one] at h6
  rw [hset _ (by omega) (by omega)] at h3
  cases h3
theorem st_all : ∀ m, m ≤ 4 → ∀ k, k < 4 → (2 ^ m - 1) / 2 ^ k % 2 = (if k < m ∧ (fun _ => true) k = true then 1 else 0) := by decide +kernel
theorem st_on : ∀ m, m ≤ 4 → 2 ≤ m → ∀ k, k < 4 → (2 ^ m - 1 - 1) / 2 ^ k % 2 = (if k < m ∧ (fun k => k != 0) k = true then 1 else 0) := by decide +kernel
theorem st_one : ∀ m, m ≤ 4 → ∀ s, s < m → ∀ k, k < 4 → (2 ^ s) / 2 ^ k % 2 = (if k < m ∧ (fun k => k == s) k = true then 1 else 0) := by decide +kernel
