/-! the state at the start -/
theorem as_no {α : Type} {d : α} {T : List (Nat × Nat × α)} {b : Nat} (h : T.all (fun e => !(e.1 == b)) = true) (j : Nat) : As d T b j = d := by
  unfold As
  rw [List.find?_eq_none.mpr]
  intro e he
  have := List.all_eq_true.mp h e he
  rw [Bool.not_eq_true'] at this
  simp [this]
theorem as_nj {α : Type} {d : α} {T : List (Nat × Nat × α)} {m b j : Nat} (h : T.all (fun e => decide (e.2.1 < m)) = true) (hj : m ≤ j) : As d T b j = d := by
  unfold As
  rw [List.find?_eq_none.mpr]
  intro e he
  have := List.all_eq_true.mp h e he
  rw [decide_eq_true_eq] at this
  have e3 : (e.2.1 == j) = false := by rw [beq_eq_false_iff_ne]; omega
  simp [e3]
theorem st_R : As none mtR = RR 0 none none := by
  funext k j
  by_cases hk : k < 106
  · by_cases hj : j < 45
    · have d : ∀ k, k < 106 → ∀ j, j < 45 → As none mtR k j = RR 0 none none k j := by decide +kernel
      exact d k hk j hj
    · rw [as_nj (m := 45) (by decide +kernel) (by omega)]
      have d : ∀ k, k < 106 → (RT.getD k []).length ≤ 45 := by decide +kernel
      have e : (RT.getD k []).getD j none = none := by
        have := d k hk
        rw [List.getD_eq_getElem?_getD, List.getElem?_eq_none (by omega)]; rfl
      unfold RR
      rw [e]
      by_cases h2 : k = 2
      · rw [if_pos h2, if_neg (by omega)]
      · rw [if_neg h2]
        by_cases h3 : k = 9 ∧ j = 1
        · rw [if_pos h3]
        · rw [if_neg h3]
          by_cases h4 : k = 23 ∧ j = 12
          · rw [if_pos h4]
          · rw [if_neg h4]
  · rw [as_ge (n := 106) (by decide +kernel) (by omega)]
    have hl : RT.length = 106 := rfl
    have hz : RT.getD k [] = [] := by
      rw [List.getD_eq_getElem?_getD, List.getElem?_eq_none (by rw [hl]; omega)]
      rfl
    unfold RR
    rw [if_neg (by omega), if_neg (by omega), if_neg (by omega), hz]
    rfl
theorem st_D : mtD = DD 0 := rfl
def tp0 : TP := fun _ => (0, 0, fun _ => 0)
theorem st_CI : CI 0 (fun _ => 0) (fun _ => 0) 0 (fun _ => 0) [] 6 0 (fun _ => 0) 0 (fun _ => 0) none [] tp0 (As 0 mtI) (As 0 tcL) := by
  refine ⟨⟨by decide, fun i hi => absurd hi (by omega), fun i hi => absurd hi (by omega), by decide, rfl, rfl, fun i hi => absurd hi (by omega), fun w hw => ?_, fun t ht => absurd ht (by omega), fun w hw v hv => ?_, fun w hw v hv => ?_, fun w hw => ?_⟩, ⟨rfl, by decide, fun p hp => absurd hp (by omega)⟩, ⟨rfl, by decide, fun h cs hh => (by cases hh), ?_⟩, ⟨Or.inr rfl, rfl⟩, ⟨rfl, by decide, fun i hi => absurd hi (by omega)⟩, ⟨rfl, by decide, fun i hi => absurd hi (by omega)⟩, rfl, ⟨⟨rfl, fun i hi => absurd hi (by simp)⟩, by decide⟩, fun p hp => ?_⟩
  · have e : As 0 tcL 1 5 = 1 := rfl
    rw [e, tb_1]
    show decide (w = 0) = (decide (w < 1) && true)
    rw [Bool.and_true, decide_eq_decide]; omega
  · have hw0 : w = 0 := by have : w < 1 := hw; omega
    subst hw0
    have e : As 0 tcL 4 0 = 1 := rfl
    rw [e, tb_1]
    show decide (v = 0) = (decide (v < 1) && true)
    rw [Bool.and_true, decide_eq_decide]; omega
  · have hw0 : w = 0 := by have : w < 1 := hw; omega
    subst hw0
    have e : As 0 tcL 5 0 = 1 := rfl
    rw [e, tb_1]
    show decide (v = 0) = (decide (v < 1) && true)
    rw [Bool.and_true, decide_eq_decide]; omega
  · have hw0 : w = 0 := by have : w < 1 := hw; omega
    subst hw0
    rfl
  · refine ⟨⟨fun i _ => ?_, fun i _ => ?_, rfl, fun i t h => (by cases h), rfl, rfl⟩, by decide, trivial, fun i _ => ⟨by show 0 ≤ 999; decide, by show 0 ≤ 999; decide⟩, by show 0 ≤ 999; decide⟩
    · show As 0 mtI 12 i = 0
      exact as_no (by decide +kernel) i
    · show As 0 mtI 13 i = 0
      exact as_no (by decide +kernel) i
  · rcases (by omega : p = 0 ∨ p = 1 ∨ p = 2 ∨ p = 3 ∨ p = 4 ∨ p = 5) with rfl | rfl | rfl | rfl | rfl | rfl
    · exact ⟨by show 0 ≤ 5; decide, by show 0 ≤ 60; decide, fun _ => rfl, rfl, rfl, fun j _ => as_no (b := 62) (by decide +kernel) j⟩
    · exact ⟨by show 0 ≤ 5; decide, by show 0 ≤ 60; decide, fun _ => rfl, rfl, rfl, fun j _ => as_no (b := 64) (by decide +kernel) j⟩
    · exact ⟨by show 0 ≤ 5; decide, by show 0 ≤ 60; decide, fun _ => rfl, rfl, rfl, fun j _ => as_no (b := 66) (by decide +kernel) j⟩
    · exact ⟨by show 0 ≤ 5; decide, by show 0 ≤ 60; decide, fun _ => rfl, rfl, rfl, fun j _ => as_no (b := 68) (by decide +kernel) j⟩
    · exact ⟨by show 0 ≤ 5; decide, by show 0 ≤ 60; decide, fun _ => rfl, rfl, rfl, fun j _ => as_no (b := 70) (by decide +kernel) j⟩
    · exact ⟨by show 0 ≤ 5; decide, by show 0 ≤ 60; decide, fun _ => rfl, rfl, rfl, fun j _ => as_no (b := 72) (by decide +kernel) j⟩
theorem st_MI : MI 0 (fun _ => 0) (fun _ => 0) 0 (fun _ => 0) [] 6 0 (fun _ => 0) 0 (fun _ => 0) none [] tp0 (As 0 mtI) (As 0 tcL) := by
  refine ⟨⟨by decide, fun i hi => absurd hi (by omega), fun i hi => absurd hi (by omega), by decide, rfl, rfl, fun i hi => absurd hi (by omega)⟩, ⟨rfl, by decide, fun p hp => absurd hp (by omega)⟩, ⟨rfl, by decide, fun h cs hh => (by cases hh)⟩, ⟨Or.inr rfl, rfl⟩, ⟨rfl, by decide, fun i hi => absurd hi (by omega)⟩, ⟨rfl, by decide, fun i hi => absurd hi (by omega)⟩, rfl, ⟨⟨rfl, fun i hi => absurd hi (by simp)⟩, by decide⟩, fun p hp => ?_⟩
  refine ⟨by show 0 ≤ 5; decide, by show 0 ≤ 60; decide, fun _ => rfl, ?_, ?_, fun j _ => as_no (b := 104) (by decide +kernel) _⟩
  · rcases (by omega : p = 0 ∨ p = 1 ∨ p = 2 ∨ p = 3 ∨ p = 4 ∨ p = 5) with rfl | rfl | rfl | rfl | rfl | rfl <;> rfl
  · exact as_no (b := 103) (by decide +kernel) p
theorem st_TB : ∀ p, p < 6 → TBp (tp0 p) := fun p _ e => absurd (show 0 = 1 from e) (by decide)
