/-! Household.add: what holds behind it -/
theorem or_fig : ∀ n, n < 4 → ∀ a, a < 4 ^ n → ∀ k, k < 4 → nI a ||| nI k <<< (nI (2 * n) &&& 31) = nI (a + k * 4 ^ n) := by decide +kernel
theorem HI_add {n j m : Nat} {kd mm : Nat → Nat} {I I' : cm_I} {L L' : cm_L} (H : HI n kd mm I L) (hn : n ≤ 3) (hWm : wys mm n * m ≤ 64) (hj : j < 7) (hm : m ≤ 4) (hm2 : 2 ≤ m)
    (a1 : I' 1 6 = nI (n + 1)) (a2 : I' 1 7 = nI (wys mm n * m)) (a3 : ∀ i, i < n → I' (106 + i) = I (106 + i)) (a4 : I' (106 + n) 0 = nI n ∧ I' (106 + n) 1 = nI j ∧ I' (106 + n) 2 = nI m)
    (a5 : L' 1 5 = sprI (wys mm n) (L 1 5) (if undr j 5 = true then 2 ^ m - 1 - 1 else 2 ^ m - 1) 4)
    (a6 : ∀ i, i < 4 * n → L' 3 i = sprI (wys mm n) (L 3 i) (2 ^ m - 1) 4) (a7 : ∀ k, k < m → L' 3 (4 * n + k) = sprI (wys mm n) (((1 : Int64) <<< ((nI (wys mm n)).toInt64 &&& 63)) - 1) (2 ^ k) 4)
    (a8 : ∀ w k, w < wys mm n → k < m → L' 4 (w + wys mm n * k) = sprI (wys mm n) (L 4 w) (bhs (fun o => nx j m k o) m) 4)
    (a9 : ∀ w k, w < wys mm n → k < m → L' 5 (w + wys mm n * k) = sprI (wys mm n) (L 5 w) (bhs (fun o => nx j m o k) m) 4)
    (a10 : ∀ w k, w < wys mm n → k < m → I' 6 (w + wys mm n * k) = I 6 w ||| nI k <<< (nI (2 * n) &&& 31)) :
    HI (n + 1) (fup kd n j) (fup mm n m) I' L' := by
  obtain ⟨h4, ho, hkd, h64, h6, h7, hth, hlw, hwi, haf, hbe, hfg⟩ := H
  have cm' : ∀ i, i < n → fup mm n m i = mm i := fun i hi => fup_lt hi
  have ck' : ∀ i, i < n → fup kd n j i = kd i := fun i hi => fup_lt hi
  have eW : wys (fup mm n m) n = wys mm n := wys_congr cm'
  have eW1 : wys (fup mm n m) (n + 1) = wys mm n * m := by simp only [wys]; rw [eW, fup_eq]
  have hp := wys_pos ho
  have ho' : okm (fup mm n m) (n + 1) := by
    intro i hi
    by_cases e : i = n
    · subst e; rw [fup_eq]; exact ⟨hm2, hm⟩
    · rw [fup_lt (by omega)]; exact ho i (by omega)
  have hon : okm (fup mm n m) n := fun i hi => ho' i (by omega)
  have hb1 : ∀ k, ∀ i, i < 4 → bhs (fun o => nx j m k o) m / 2 ^ i % 2 = (if i < m ∧ (fun o => nx j m k o) i = true then 1 else 0) := fun k i _ => bhs_bit
  have hb2 : ∀ k, ∀ i, i < 4 → bhs (fun o => nx j m o k) m / 2 ^ i % 2 = (if i < m ∧ (fun o => nx j m o k) i = true then 1 else 0) := fun k i _ => bhs_bit
  have W32 : wys mm n < 64 := by
    have h2 : wys mm n * 2 ≤ wys mm n * m := Nat.mul_le_mul_left _ hm2
    omega
  -- a way of n + 1 things, split
  have split : ∀ v, v < wys mm n * m → ∃ w k, w < wys mm n ∧ k < m ∧ v = w + wys mm n * k := by
    intro v hv
    exact ⟨v % wys mm n, v / wys mm n, Nat.mod_lt _ hp, Nat.div_lt_of_lt_mul hv, (Nat.mod_add_div _ _).symm⟩
  have lt' : ∀ {w k}, w < wys mm n → k < m → w + wys mm n * k < wys mm n * m := by
    intro w k hw hk
    have h1 : wys mm n * (k + 1) ≤ wys mm n * m := Nat.mul_le_mul_left _ hk
    rw [Nat.mul_add, Nat.mul_one] at h1
    omega
  have dl : ∀ {w k t}, w < wys mm n → t < n → dgt (fup mm n m) (w + wys mm n * k) t = dgt mm w t := by
    intro w k t hw ht
    rw [dgt_congr cm' ht]
    exact dgt_add ho ht w k
  have dt : ∀ {w k}, w < wys mm n → k < m → dgt (fup mm n m) (w + wys mm n * k) n = k := by
    intro w k hw hk
    have := dgt_top hon (w := w) (k := k) (by rw [eW]; exact hw) (by rw [fup_eq]; exact hk)
    rwa [eW] at this
  have nn : ∀ {w k v i}, w < wys mm n → v < wys mm n → k < m → i < m → nxt (fup kd n j) (fup mm n m) (n + 1) (w + wys mm n * k) (v + wys mm n * i) = (nxt kd mm n w v && nx j m k i) := by
    intro w k v i hw hv hk hi
    simp only [nxt]
    rw [nxt_congr cm' ck', nxt_add ho (Nat.le_refl n), fup_eq, fup_eq, dt hw hk, dt hv hi]
  refine ⟨by omega, ho', ?_, by rw [eW1]; exact hWm, a1, by rw [eW1]; exact a2, ?_, ?_, ?_, ?_, ?_, ?_⟩
  · intro i hi
    by_cases e : i = n
    · subst e; rw [fup_eq]; exact hj
    · rw [fup_lt (by omega)]; exact hkd i (by omega)
  · intro i hi
    by_cases e : i = n
    · subst e; rw [fup_eq, fup_eq]; exact a4
    · rw [fup_lt (by omega), fup_lt (by omega), a3 i (by omega)]
      exact hth i (by omega)
  · intro v hv
    have hz : ∀ x, wys mm n ≤ x → x < 64 → tb (L 1 5) x = false := fun x h1 h2 => by rw [hlw x h2]; simp [Nat.not_lt.mpr h1]
    rw [eW1, a5]
    have hst : ∀ k, k < 4 → (if undr j 5 = true then 2 ^ m - 1 - 1 else 2 ^ m - 1) / 2 ^ k % 2 = (if k < m ∧ (fun k => !(undr j 5 && k == 0)) k = true then 1 else 0) := by
      intro k hk
      cases hu : undr j 5 with
      | true => rw [if_pos rfl, st_on m hm hm2 k hk]; simp
      | false => rw [if_neg (by decide), st_all m hm k hk]; simp
    by_cases hlt : v < wys mm n * m
    · obtain ⟨w, k, hw, hk, rfl⟩ := split v hlt
      rw [spr_way ho hm hWm hst hz hw hk, hlw w (by omega)]
      simp only [lwf]
      rw [lwf_congr cm' ck', lwf_add ho (Nat.le_refl n), fup_eq, dt hw hk]
      simp [hw, hlt, Bool.and_comm]
    · rw [spr_big ho hm hWm hst hz (by omega) hv]
      simp [hlt]
  · intro t ht k hk v hv
    rw [eW1]
    by_cases e : t = n
    · subst e
      rw [fup_eq] at hk
      have hz : ∀ x, wys mm t ≤ x → x < 64 → tb (((1 : Int64) <<< ((nI (wys mm t)).toInt64 &&& 63)) - 1) x = false := fun x h1 h2 => by rw [tb_mask _ W32 _ h2]; simp; omega
      rw [a7 k hk]
      by_cases hlt : v < wys mm t * m
      · obtain ⟨w, i, hw, hi, rfl⟩ := split v hlt
        rw [spr_way ho hm hWm (st_one m hm k hk) hz hw hi, tb_mask _ W32 _ (by omega), dt hw hi]
        simp [hw, hlt]
      · rw [spr_big ho hm hWm (st_one m hm k hk) hz (by omega) hv]
        simp [hlt]
    · have ht' : t < n := by omega
      rw [fup_lt ht'] at hk
      have hmt := ho t ht'
      have hz : ∀ x, wys mm n ≤ x → x < 64 → tb (L 3 (4 * t + k)) x = false := fun x h1 h2 => by rw [hwi t ht' k hk x h2]; simp [Nat.not_lt.mpr h1]
      rw [a6 _ (by omega)]
      by_cases hlt : v < wys mm n * m
      · obtain ⟨w, i, hw, hi, rfl⟩ := split v hlt
        rw [spr_way ho hm hWm (st_all m hm) hz hw hi, hwi t ht' k hk w (by omega), dl hw ht']
        simp [hw, hlt]
      · rw [spr_big ho hm hWm (st_all m hm) hz (by omega) hv]
        simp [hlt]
  · intro x hx v hv
    rw [eW1] at hx ⊢
    obtain ⟨w, k, hw, hk, rfl⟩ := split x hx
    have hz : ∀ y, wys mm n ≤ y → y < 64 → tb (L 4 w) y = false := fun y h1 h2 => by rw [haf w hw y h2]; simp [Nat.not_lt.mpr h1]
    rw [a8 w k hw hk]
    by_cases hlt : v < wys mm n * m
    · obtain ⟨u, i, hu, hi, rfl⟩ := split v hlt
      rw [spr_way ho hm hWm (hb1 k) hz hu hi, haf w hw u (by omega), nn hw hu hk hi]
      simp [hu, hlt, Bool.and_comm]
    · rw [spr_big ho hm hWm (hb1 k) hz (by omega) hv]
      simp [hlt]
  · intro x hx v hv
    rw [eW1] at hx ⊢
    obtain ⟨w, k, hw, hk, rfl⟩ := split x hx
    have hz : ∀ y, wys mm n ≤ y → y < 64 → tb (L 5 w) y = false := fun y h1 h2 => by rw [hbe w hw y h2]; simp [Nat.not_lt.mpr h1]
    rw [a9 w k hw hk]
    by_cases hlt : v < wys mm n * m
    · obtain ⟨u, i, hu, hi, rfl⟩ := split v hlt
      rw [spr_way ho hm hWm (hb2 k) hz hu hi, hbe w hw u (by omega), nn hu hw hi hk]
      simp [hu, hlt, Bool.and_comm]
    · rw [spr_big ho hm hWm (hb2 k) hz (by omega) hv]
      simp [hlt]
  · intro x hx
    rw [eW1] at hx
    obtain ⟨w, k, hw, hk, rfl⟩ := split x hx
    rw [a10 w k hw hk, hfg w hw, or_fig n (by omega) _ (fig_lt ho w) k (by omega)]
    simp only [fig]
    rw [fig_congr cm', fig_add ho (Nat.le_refl n), dt hw hk]
