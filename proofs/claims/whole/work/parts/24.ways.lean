/-! ways as numbers -/
def wys (mm : Nat → Nat) : Nat → Nat
  | 0 => 1
  | n + 1 => wys mm n * mm n
def dgt (mm : Nat → Nat) (w t : Nat) : Nat := w / wys mm t % mm t
def nxt (kd mm : Nat → Nat) : Nat → Nat → Nat → Bool
  | 0, _, _ => true
  | n + 1, w, v => nxt kd mm n w v && nx (kd n) (mm n) (dgt mm w n) (dgt mm v n)
def lwf (kd mm : Nat → Nat) : Nat → Nat → Bool
  | 0, _ => true
  | n + 1, w => lwf kd mm n w && !(undr (kd n) 5 && dgt mm w n == 0)
def fig (mm : Nat → Nat) : Nat → Nat → Nat
  | 0, _ => 0
  | n + 1, w => fig mm n w + dgt mm w n * 4 ^ n
/-- how many things differ -/
def chg (mm : Nat → Nat) : Nat → Nat → Nat → Nat
  | 0, _, _ => 0
  | n + 1, w, v => chg mm n w v + (if dgt mm w n = dgt mm v n then 0 else 1)
def okm (mm : Nat → Nat) (n : Nat) : Prop := ∀ i, i < n → 2 ≤ mm i ∧ mm i ≤ 4
theorem wys_pos {mm : Nat → Nat} : ∀ {n : Nat}, okm mm n → 0 < wys mm n := by
  intro n
  induction n with
  | zero => intro _; exact Nat.one_pos
  | succ n ih => intro h; exact Nat.mul_pos (ih fun i hi => h i (by omega)) (by have := (h n (by omega)).1; omega)
theorem wys_ge {mm : Nat → Nat} : ∀ {n : Nat}, okm mm n → n < wys mm n + 0 ∨ n = 0 := by
  intro n
  induction n with
  | zero => intro _; exact Or.inr rfl
  | succ n ih =>
    intro h
    have h0 := ih fun i hi => h i (by omega)
    have h1 := (h n (by omega)).1
    have h2 : wys mm n * 2 ≤ wys mm n * mm n := Nat.mul_le_mul_left _ h1
    have h3 := wys_pos (n := n) fun i hi => h i (by omega)
    left
    show n + 1 < wys mm n * mm n + 0
    omega
theorem wys_mono {mm : Nat → Nat} {n t : Nat} (h : okm mm n) (ht : t ≤ n) : wys mm t ≤ wys mm n := by
  induction n with
  | zero => rw [Nat.le_zero.mp ht]; exact Nat.le_refl _
  | succ n ih =>
    by_cases e : t = n + 1
    · subst e; exact Nat.le_refl _
    · have h1 := (h n (by omega)).1
      have h2 : wys mm n * 1 ≤ wys mm n * mm n := Nat.mul_le_mul_left _ (by omega)
      have h3 := ih (fun i hi => h i (by omega)) (by omega)
      show _ ≤ wys mm n * mm n
      omega
theorem dgt_lt {mm : Nat → Nat} {n t : Nat} (h : okm mm n) (ht : t < n) (w : Nat) : dgt mm w t < mm t := Nat.mod_lt _ (by have := (h t ht).1; omega)
theorem wys_dvd {mm : Nat → Nat} {t n : Nat} (ht : t ≤ n) : wys mm t ∣ wys mm n := by
  induction n with
  | zero => rw [Nat.le_zero.mp ht]; exact Nat.dvd_refl _
  | succ n ih =>
    by_cases e : t = n + 1
    · subst e; exact Nat.dvd_refl _
    · exact Nat.dvd_trans (ih (by omega)) (Nat.dvd_mul_right _ _)
theorem dgt_add {mm : Nat → Nat} {n t : Nat} (h : okm mm n) (ht : t < n) (w k : Nat) : dgt mm (w + wys mm n * k) t = dgt mm w t := by
  obtain ⟨c, hc⟩ : wys mm (t + 1) ∣ wys mm n := wys_dvd (by omega)
  have hp := wys_pos (n := t) fun i hi => h i (by omega)
  unfold dgt
  have e : w + wys mm n * k = w + wys mm t * (mm t * (c * k)) := by
    rw [hc]
    show w + wys mm t * mm t * c * k = _
    rw [Nat.mul_assoc, Nat.mul_assoc]
  rw [e, Nat.add_mul_div_left _ _ hp, Nat.add_mul_mod_self_left]
theorem dgt_top {mm : Nat → Nat} {n : Nat} (h : okm mm n) {w k : Nat} (hw : w < wys mm n) (hk : k < mm n) : dgt mm (w + wys mm n * k) n = k := by
  have hp := wys_pos h
  unfold dgt
  rw [Nat.add_mul_div_left _ _ hp, Nat.div_eq_of_lt hw, Nat.zero_add, Nat.mod_eq_of_lt hk]
/-- a way of one thing more -/
theorem way_split {mm : Nat → Nat} {n : Nat} (h : okm mm n) {v : Nat} (hv : v < wys mm (n + 1)) : ∃ w k, w < wys mm n ∧ k < mm n ∧ v = w + wys mm n * k ∧ dgt mm v n = k := by
  have hp := wys_pos h
  refine ⟨v % wys mm n, v / wys mm n, Nat.mod_lt _ hp, Nat.div_lt_of_lt_mul hv, (Nat.mod_add_div _ _).symm, ?_⟩
  exact Nat.mod_eq_of_lt (Nat.div_lt_of_lt_mul hv)
theorem way_lt {mm : Nat → Nat} {n w k : Nat} (hw : w < wys mm n) (hk : k < mm n) : w + wys mm n * k < wys mm (n + 1) := by
  have h1 : wys mm n * (k + 1) ≤ wys mm n * mm n := Nat.mul_le_mul_left _ hk
  rw [Nat.mul_add, Nat.mul_one] at h1
  show _ < wys mm n * mm n
  omega
theorem nxt_add {kd mm : Nat → Nat} {n : Nat} (h : okm mm n) : ∀ {t : Nat}, t ≤ n → ∀ w k v j, nxt kd mm t (w + wys mm n * k) (v + wys mm n * j) = nxt kd mm t w v := by
  intro t
  induction t with
  | zero => intro _ w k v j; rfl
  | succ t ih => intro ht w k v j; simp only [nxt, ih (by omega), dgt_add h (show t < n by omega)]
theorem lwf_add {kd mm : Nat → Nat} {n : Nat} (h : okm mm n) : ∀ {t : Nat}, t ≤ n → ∀ w k, lwf kd mm t (w + wys mm n * k) = lwf kd mm t w := by
  intro t
  induction t with
  | zero => intro _ w k; rfl
  | succ t ih => intro ht w k; simp only [lwf, ih (by omega), dgt_add h (show t < n by omega)]
theorem fig_add {mm : Nat → Nat} {n : Nat} (h : okm mm n) : ∀ {t : Nat}, t ≤ n → ∀ w k, fig mm t (w + wys mm n * k) = fig mm t w := by
  intro t
  induction t with
  | zero => intro _ w k; rfl
  | succ t ih => intro ht w k; simp only [fig, ih (by omega), dgt_add h (show t < n by omega)]
theorem fig_lt {mm : Nat → Nat} : ∀ {n : Nat}, okm mm n → ∀ w, fig mm n w < 4 ^ n := by
  intro n
  induction n with
  | zero => intro _ w; exact Nat.one_pos
  | succ n ih =>
    intro h w
    have h1 := ih (fun i hi => h i (by omega)) w
    have h2 := dgt_lt h (show n < n + 1 by omega) w
    have h3 := (h n (by omega)).2
    have h4 : dgt mm w n * 4 ^ n ≤ 3 * 4 ^ n := Nat.mul_le_mul_right _ (by omega)
    show fig mm n w + dgt mm w n * 4 ^ n < 4 ^ (n + 1)
    rw [Nat.pow_succ]
    omega
theorem fig_dgt {mm : Nat → Nat} : ∀ {n : Nat}, okm mm n → ∀ {t : Nat}, t < n → ∀ w, fig mm n w / 4 ^ t % 4 = dgt mm w t := by
  intro n
  induction n with
  | zero => intro _ t ht; omega
  | succ n ih =>
    intro h t ht w
    have h1 : okm mm n := fun i hi => h i (by omega)
    have h2 := dgt_lt h (show n < n + 1 by omega) w
    have h3 := (h n (by omega)).2
    show (fig mm n w + dgt mm w n * 4 ^ n) / 4 ^ t % 4 = _
    by_cases e : t = n
    · subst e
      rw [Nat.add_mul_div_right _ _ (Nat.pow_pos (by decide)), Nat.div_eq_of_lt (fig_lt h1 w), Nat.zero_add]
      exact Nat.mod_eq_of_lt (by omega)
    · obtain ⟨c, hc⟩ : ∃ c, n = t + 1 + c := ⟨n - (t + 1), by omega⟩
      have e2 : dgt mm w n * 4 ^ n = 4 ^ t * (4 * (4 ^ c * dgt mm w n)) := by
        rw [hc, Nat.pow_add, Nat.pow_succ, Nat.mul_comm, Nat.mul_assoc, Nat.mul_assoc]
      rw [e2, Nat.add_mul_div_left _ _ (Nat.pow_pos (by decide)), Nat.add_mul_mod_self_left]
      exact ih h1 (by omega) w
