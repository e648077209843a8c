/-! the reference's reader of an E, as a machine, and that it reads what the class reads -/
def opW : List Nat → Nat
  | [] => 0
  | x :: W => if x = 33 ∨ x = 40 then opW W + 1 else opW W
def whl : List Nat → List Nat → List Nat × List Nat
  | [], ts => ([], ts)
  | x :: W, ts => if x = 33 then whl W (ts ++ [5033]) else (x :: W, ts)
def stl (b : Nat) : List Nat → List Nat → List Nat × List Nat
  | [], ts => ([], ts)
  | x :: W, ts => if x = 38 then stl b W (ts ++ [5038]) else if x = 124 ∧ b ≠ 38 then stl b W (ts ++ [5124]) else (x :: W, ts)
def mch (c : Nat → Nat) : Nat → Nat → Bool → List Nat → List Nat → Option (Nat × Option (List Nat))
  | 0, _, _, _, _ => none
  | f + 1, p, true, W, ts => if c p = 33 ∨ c p = 40 then (if opW W = 4 then some (p, none) else mch c f (p + 1) true (c p :: W) ts) else (match pTest c p with
    | (p', none) => some (p', none)
    | (p', some t) => mch c f p' false (whl W (ts ++ [t])).1 (whl W (ts ++ [t])).2)
  | f + 1, p, false, W, ts => if c p = 38 ∨ c p = 124 then mch c f (p + 1) true (c p :: (stl (c p) W ts).1) (stl (c p) W ts).2
    else if (stl 124 W ts).1 = [] then some (p, some (stl 124 W ts).2) else if c p = 41 then mch c f (p + 1) false (whl (stl 124 W ts).1.tail (stl 124 W ts).2).1 (whl (stl 124 W ts).1.tail (stl 124 W ts).2).2 else some (p, none)
def Rn (c : Nat → Nat) (p : Nat) (wt : Bool) (W ts : List Nat) (r : Nat × Option (List Nat)) : Prop := ∃ f, mch c f p wt W ts = some r
section MA
variable {c : Nat → Nat}
theorem Rn_38 {p : Nat} {X ts : List Nat} {r : Nat × Option (List Nat)} (h : Rn c p false X (ts ++ [5038]) r) : Rn c p false (38 :: X) ts r := by
  obtain ⟨f, h⟩ := h
  refine ⟨f, ?_⟩
  cases f with
  | zero => cases h
  | succ f =>
    have e : ∀ b, stl b (38 :: X) ts = stl b X (ts ++ [5038]) := fun b => by
      show (if 38 = 38 then _ else _) = _
      rw [if_pos rfl]
    simp only [mch, e]
    exact h
theorem Rn_124 {p : Nat} {X ts : List Nat} {r : Nat × Option (List Nat)} (hc : c p ≠ 38) (h : Rn c p false X (ts ++ [5124]) r) : Rn c p false (124 :: X) ts r := by
  obtain ⟨f, h⟩ := h
  refine ⟨f, ?_⟩
  cases f with
  | zero => cases h
  | succ f =>
    have e : ∀ b, b ≠ 38 → stl b (124 :: X) ts = stl b X (ts ++ [5124]) := fun b hb => by
      show (if 124 = 38 then _ else if 124 = 124 ∧ b ≠ 38 then _ else _) = _
      rw [if_neg (by decide), if_pos ⟨rfl, hb⟩]
    simp only [mch, e _ hc, e 124 (by decide)]
    exact h
/-- a stack on which an operand may stand as a part of its own: nothing, an open bracket, or an or over such -/
def bsE (B : List Nat) : Prop := B = [] ∨ ∃ W, B = 40 :: W
def bsX (X : List Nat) : Prop := bsE X ∨ ∃ B, X = 124 :: B
theorem whl_X {X ts : List Nat} (h : bsX X) : whl X ts = (X, ts) := by
  rcases h with (rfl | ⟨W, rfl⟩) | ⟨B, rfl⟩
  · rfl
  · show (if 40 = 33 then _ else _) = _
    rw [if_neg (by decide)]
  · show (if 124 = 33 then _ else _) = _
    rw [if_neg (by decide)]
theorem whl_38 {X ts : List Nat} : whl (38 :: X) ts = (38 :: X, ts) := by
  show (if 38 = 33 then _ else _) = _
  rw [if_neg (by decide)]
theorem stl_X {X ts : List Nat} (h : bsX X) : stl 38 X ts = (X, ts) := by
  rcases h with (rfl | ⟨W, rfl⟩) | ⟨B, rfl⟩
  · rfl
  · show (if 40 = 38 then _ else if 40 = 124 ∧ _ then _ else _) = _
    rw [if_neg (by decide), if_neg (fun e => absurd e.1 (by decide))]
  · show (if 124 = 38 then _ else if 124 = 124 ∧ 38 ≠ 38 then _ else _) = _
    rw [if_neg (by decide), if_neg (fun e => e.2 rfl)]
theorem stl_E {b : Nat} {B ts : List Nat} (h : bsE B) : stl b B ts = (B, ts) := by
  rcases h with rfl | ⟨W, rfl⟩
  · rfl
  · show (if 40 = 38 then _ else if 40 = 124 ∧ _ then _ else _) = _
    rw [if_neg (by decide), if_neg (fun e => absurd e.1 (by decide))]
theorem opW_op {x : Nat} {W : List Nat} (h : x = 38 ∨ x = 124) : opW (x :: W) = opW W := by
  show (if _ then _ else _) = _
  rw [if_neg (by omega)]
/-- what a reader of an operand does, as the machine does it -/
def RdS (c : Nat → Nat) (k : Nat) (s : Nat → Nat × Option (List Nat)) : Prop := ∀ p W ts, opW W + k = 4 → (∀ p', s p = (p', none) → Rn c p true W ts (p', none)) ∧ (∀ p' t r, s p = (p', some t) → Rn c p' false (whl W (ts ++ t)).1 (whl W (ts ++ t)).2 r → Rn c p true W ts r)
theorem Rn_amp {p : Nat} {X ts : List Nat} {r : Nat × Option (List Nat)} (hX : bsX X) (hc : c p = 38) (h : Rn c (p + 1) true (38 :: X) ts r) : Rn c p false X ts r := by
  obtain ⟨f, h⟩ := h
  refine ⟨f + 1, ?_⟩
  simp only [mch]
  rw [if_pos (Or.inl hc), hc, stl_X hX]
  exact h
theorem Rn_bar {p : Nat} {B ts : List Nat} {r : Nat × Option (List Nat)} (hX : bsE B) (hc : c p = 124) (h : Rn c (p + 1) true (124 :: B) ts r) : Rn c p false B ts r := by
  obtain ⟨f, h⟩ := h
  refine ⟨f + 1, ?_⟩
  simp only [mch]
  rw [if_pos (Or.inr hc), hc, stl_E hX]
  exact h
variable {len : Nat}
theorem RdB {k : Nat} {s : Nat → Nat × Option (List Nat)} (S : RdS c k s) (hs : ∀ p p' ts, s p = (p', some ts) → p + 1 ≤ p' ∧ p' ≤ len) (hc : ∀ p, len ≤ p → c p = 256) : ∀ m p a X ts, bsX X → opW X + k = 4 → p ≤ len → len ≤ p + m → (∀ p', pBl s c m p a = (p', none) → Rn c p false X (ts ++ a) (p', none)) ∧ (∀ p' t r, pBl s c m p a = (p', some t) → (Rn c p' false X (ts ++ t) r → Rn c p false X (ts ++ a) r) ∧ c p' ≠ 38 ∧ p ≤ p' ∧ p' ≤ len) := by
  intro m
  induction m with
  | zero =>
    intro p a X ts hX ho hp hm
    have h38 : c p ≠ 38 := by rw [hc p (by omega)]; decide
    refine ⟨fun p' h => (by cases h), fun p' t r h => ?_⟩
    cases h
    exact ⟨id, h38, Nat.le_refl _, hp⟩
  | succ m ih =>
    intro p a X ts hX ho hp hm
    by_cases h38 : c p = 38
    · have hl : p < len := by
        by_cases e : p < len
        · exact e
        · rw [hc p (by omega)] at h38; cases h38
      have hS := S (p + 1) (38 :: X) (ts ++ a) (by rw [opW_op (Or.inl rfl)]; exact ho)
      have eq : pBl s c (m + 1) p a = pbd (s (p + 1)) fun p' t => pBl s c m p' (a ++ t ++ [5038]) := by
        show (if c p = 38 then _ else _) = _
        rw [if_pos h38]
      rw [eq]
      cases hsp : s (p + 1) with
      | mk p1 o =>
        cases o with
        | none =>
          refine ⟨fun p' h => ?_, fun p' t r h => by cases h⟩
          cases h
          exact Rn_amp hX h38 (hS.1 p1 hsp)
        | some t1 =>
          have hb := hs _ _ _ hsp
          have key : ∀ r, Rn c p1 false X (ts ++ (a ++ t1 ++ [5038])) r → Rn c p false X (ts ++ a) r := fun r h => by
            refine Rn_amp hX h38 (hS.2 p1 t1 r hsp ?_)
            rw [whl_38]
            refine Rn_38 ?_
            rw [List.append_assoc, List.append_assoc]
            rw [List.append_assoc] at h
            exact h
          have ih1 := ih p1 (a ++ t1 ++ [5038]) X ts hX ho hb.2 (by omega)
          refine ⟨fun p' h => key _ (ih1.1 p' h), fun p' t r h => ?_⟩
          have q := ih1.2 p' t r h
          exact ⟨fun h2 => key _ (q.1 h2), q.2.1, by omega, q.2.2.2⟩
    · have eq : pBl s c (m + 1) p a = (p, some a) := by
        show (if c p = 38 then _ else _) = _
        rw [if_neg h38]
      rw [eq]
      refine ⟨fun p' h => (by cases h), fun p' t r h => ?_⟩
      cases h
      exact ⟨id, h38, Nat.le_refl _, hp⟩
theorem RdBf {k : Nat} {s : Nat → Nat × Option (List Nat)} (S : RdS c k s) (hs : ∀ p p' ts, s p = (p', some ts) → p + 1 ≤ p' ∧ p' ≤ len) (hc : ∀ p, len ≤ p → c p = 256) (hl : len ≤ 100) {p : Nat} {X ts : List Nat} (hX : bsX X) (ho : opW X + k = 4) : (∀ p', pBf s c p = (p', none) → Rn c p true X ts (p', none)) ∧ (∀ p' t r, pBf s c p = (p', some t) → (Rn c p' false X (ts ++ t) r → Rn c p true X ts r) ∧ c p' ≠ 38 ∧ p + 1 ≤ p' ∧ p' ≤ len) := by
  have hS := S p X ts ho
  unfold pBf
  cases hsp : s p with
  | mk p1 o =>
    cases o with
    | none =>
      refine ⟨fun p' h => ?_, fun p' t r h => by cases h⟩
      cases h
      exact hS.1 p1 hsp
    | some t1 =>
      have hb := hs _ _ _ hsp
      have q := RdB S hs hc 100 p1 t1 X ts hX ho hb.2 (by omega)
      have key : ∀ r, Rn c p1 false X (ts ++ t1) r → Rn c p true X ts r := fun r h => by
        refine hS.2 p1 t1 r hsp ?_
        rw [whl_X hX]
        exact h
      refine ⟨fun p' h => key _ (q.1 p' h), fun p' t r h => ?_⟩
      have q2 := q.2 p' t r h
      exact ⟨fun h2 => key _ (q2.1 h2), q2.2.1, by omega, q2.2.2.2⟩
theorem RdE {k : Nat} {s : Nat → Nat × Option (List Nat)} (S : RdS c k s) (hs : ∀ p p' ts, s p = (p', some ts) → p + 1 ≤ p' ∧ p' ≤ len) (hc : ∀ p, len ≤ p → c p = 256) (hl : len ≤ 100) : ∀ m p a B ts, bsE B → opW B + k = 4 → p ≤ len → len ≤ p + m → c p ≠ 38 → (∀ p', pEl s c m p a = (p', none) → Rn c p false B (ts ++ a) (p', none)) ∧ (∀ p' t r, pEl s c m p a = (p', some t) → (Rn c p' false B (ts ++ t) r → Rn c p false B (ts ++ a) r) ∧ c p' ≠ 38 ∧ c p' ≠ 124 ∧ p ≤ p' ∧ p' ≤ len) := by
  intro m
  induction m with
  | zero =>
    intro p a B ts hB ho hp hm h38
    have h124 : c p ≠ 124 := by rw [hc p (by omega)]; decide
    refine ⟨fun p' h => (by cases h), fun p' t r h => ?_⟩
    cases h
    exact ⟨id, h38, h124, Nat.le_refl _, hp⟩
  | succ m ih =>
    intro p a B ts hB ho hp hm h38
    by_cases h124 : c p = 124
    · have eq : pEl s c (m + 1) p a = pbd (pBf s c (p + 1)) fun p' t => pEl s c m p' (a ++ t ++ [5124]) := by
        show (if c p = 124 then _ else _) = _
        rw [if_pos h124]
      have hS := RdBf (len := len) S hs hc hl (p := p + 1) (X := 124 :: B) (ts := ts ++ a) (Or.inr ⟨B, rfl⟩) (by rw [opW_op (Or.inr rfl)]; exact ho)
      rw [eq]
      cases hsp : pBf s c (p + 1) with
      | mk p1 o =>
        cases o with
        | none =>
          refine ⟨fun p' h => ?_, fun p' t r h => by cases h⟩
          cases h
          exact Rn_bar hB h124 (hS.1 p1 hsp)
        | some t1 =>
          have hb := fun r => hS.2 p1 t1 r hsp
          have hb0 := hb (0, none)
          have key : ∀ r, Rn c p1 false B (ts ++ (a ++ t1 ++ [5124])) r → Rn c p false B (ts ++ a) r := fun r h => by
            refine Rn_bar hB h124 ((hb r).1 (Rn_124 hb0.2.1 ?_))
            rw [List.append_assoc, List.append_assoc]
            rw [List.append_assoc] at h
            exact h
          have ih1 := ih p1 (a ++ t1 ++ [5124]) B ts hB ho hb0.2.2.2 (by omega) hb0.2.1
          refine ⟨fun p' h => key _ (ih1.1 p' h), fun p' t r h => ?_⟩
          have q := ih1.2 p' t r h
          exact ⟨fun h2 => key _ (q.1 h2), q.2.1, q.2.2.1, by omega, q.2.2.2.2⟩
    · have eq : pEl s c (m + 1) p a = (p, some a) := by
        show (if c p = 124 then _ else _) = _
        rw [if_neg h124]
      rw [eq]
      refine ⟨fun p' h => (by cases h), fun p' t r h => ?_⟩
      cases h
      exact ⟨id, h38, h124, Nat.le_refl _, hp⟩
theorem RdEf {k : Nat} {s : Nat → Nat × Option (List Nat)} (S : RdS c k s) (hs : ∀ p p' ts, s p = (p', some ts) → p + 1 ≤ p' ∧ p' ≤ len) (hc : ∀ p, len ≤ p → c p = 256) (hl : len ≤ 100) {p : Nat} {B ts : List Nat} (hB : bsE B) (ho : opW B + k = 4) : (∀ p', pEf s c p = (p', none) → Rn c p true B ts (p', none)) ∧ (∀ p' t r, pEf s c p = (p', some t) → (Rn c p' false B (ts ++ t) r → Rn c p true B ts r) ∧ c p' ≠ 38 ∧ c p' ≠ 124 ∧ p' ≤ len) := by
  have hS := RdBf (len := len) S hs hc hl (p := p) (X := B) (ts := ts) (Or.inl hB) ho
  unfold pEf
  cases hsp : pBf s c p with
  | mk p1 o =>
    cases o with
    | none =>
      refine ⟨fun p' h => ?_, fun p' t r h => by cases h⟩
      cases h
      exact hS.1 p1 hsp
    | some t1 =>
      have hb0 := hS.2 p1 t1 (0, none) hsp
      have q := RdE S hs hc hl 100 p1 t1 B ts hB ho hb0.2.2.2 (by omega) hb0.2.1
      refine ⟨fun p' h => (hS.2 p1 t1 _ hsp).1 (q.1 p' h), fun p' t r h => ?_⟩
      have q2 := q.2 p' t r h
      exact ⟨fun h2 => (hS.2 p1 t1 r hsp).1 (q2.1 h2), q2.2.1, q2.2.2.1, q2.2.2.2.2⟩
end MA
theorem RdS_k {len : Nat} {tx : Nat → Nat} (hl : len ≤ 100) : ∀ k, RdS (pk len tx) k (pS (pk len tx) k) := by
  have hc : ∀ p, len ≤ p → pk len tx p = 256 := fun p h => by unfold pk; rw [if_neg (by omega)]
  have tst : ∀ {p : Nat} {W ts : List Nat}, ¬ (pk len tx p = 33 ∨ pk len tx p = 40) → (∀ p', (pbd (pTest (pk len tx) p) fun p' t => (p', some [t])) = (p', none) → Rn (pk len tx) p true W ts (p', none)) ∧ (∀ p' t r, (pbd (pTest (pk len tx) p) fun p' t => (p', some [t])) = (p', some t) → Rn (pk len tx) p' false (whl W (ts ++ t)).1 (whl W (ts ++ t)).2 r → Rn (pk len tx) p true W ts r) := by
    intro p W ts h
    cases ht : pTest (pk len tx) p with
    | mk p1 o =>
      cases o with
      | none =>
        refine ⟨fun p' h2 => ?_, fun p' t r h2 => by cases h2⟩
        cases h2
        exact ⟨1, by simp only [mch]; rw [if_neg h, ht]⟩
      | some t1 =>
        refine ⟨fun p' h2 => (by cases h2), fun p' t r h2 h3 => ?_⟩
        cases h2
        obtain ⟨f, h3⟩ := h3
        exact ⟨f + 1, by simp only [mch]; rw [if_neg h, ht]; exact h3⟩
  intro k
  induction k with
  | zero =>
    intro p W ts ho
    have e : pS (pk len tx) 0 p = if pk len tx p = 33 ∨ pk len tx p = 40 then (p, none) else pbd (pTest (pk len tx) p) fun p' t => (p', some [t]) := rfl
    rw [e]
    by_cases h : pk len tx p = 33 ∨ pk len tx p = 40
    · rw [if_pos h]
      refine ⟨fun p' h2 => ?_, fun p' t r h2 => by cases h2⟩
      cases h2
      exact ⟨1, by simp only [mch]; rw [if_pos h, if_pos (by omega)]⟩
    · rw [if_neg h]
      exact tst h
  | succ k ih =>
    intro p W ts ho
    have hs : ∀ p p' ts, pS (pk len tx) k p = (p', some ts) → p + 1 ≤ p' ∧ p' ≤ len := fun p p' ts h => by
      have := pS_some (len := len) (tx := tx) k p p' ts h
      exact ⟨this.2.1, this.2.2.1⟩
    have e : pS (pk len tx) (k + 1) p = if pk len tx p = 33 then pbd (pS (pk len tx) k (p + 1)) fun p' t => (p', some (t ++ [5033])) else if pk len tx p = 40 then pbd (pEf (pS (pk len tx) k) (pk len tx) (p + 1)) fun p' t => pbd (pSg 41 (pk len tx) p') fun p'' _ => (p'', some t) else pbd (pTest (pk len tx) p) fun p' t => (p', some [t]) := rfl
    rw [e]
    by_cases h33 : pk len tx p = 33
    · rw [if_pos h33]
      have ow : opW (33 :: W) = opW W + 1 := by
        show (if _ then _ else _) = _
        rw [if_pos (Or.inl rfl)]
      have push : ∀ r, Rn (pk len tx) (p + 1) true (33 :: W) ts r → Rn (pk len tx) p true W ts r := fun r h => by
        obtain ⟨f, h⟩ := h
        exact ⟨f + 1, by simp only [mch]; rw [if_pos (Or.inl h33), if_neg (by omega), h33]; exact h⟩
      have hS := ih (p + 1) (33 :: W) ts (by rw [ow]; omega)
      cases hsp : pS (pk len tx) k (p + 1) with
      | mk p1 o =>
        cases o with
        | none =>
          refine ⟨fun p' h => ?_, fun p' t r h => by cases h⟩
          cases h
          exact push _ (hS.1 p1 hsp)
        | some t1 =>
          refine ⟨fun p' h => (by cases h), fun p' t r h h2 => ?_⟩
          cases h
          refine push _ (hS.2 p1 t1 r hsp ?_)
          have ew : whl (33 :: W) (ts ++ t1) = whl W (ts ++ (t1 ++ [5033])) := by
            show (if 33 = 33 then _ else _) = _
            rw [if_pos rfl, List.append_assoc]
          rw [ew]
          exact h2
    · rw [if_neg h33]
      by_cases h40 : pk len tx p = 40
      · rw [if_pos h40]
        have ow : opW (40 :: W) = opW W + 1 := by
          show (if _ then _ else _) = _
          rw [if_pos (Or.inr rfl)]
        have push : ∀ r, Rn (pk len tx) (p + 1) true (40 :: W) ts r → Rn (pk len tx) p true W ts r := fun r h => by
          obtain ⟨f, h⟩ := h
          exact ⟨f + 1, by simp only [mch]; rw [if_pos (Or.inr h40), if_neg (by omega), h40]; exact h⟩
        have hE := RdEf (len := len) ih hs hc hl (p := p + 1) (B := 40 :: W) (ts := ts) (Or.inr ⟨W, rfl⟩) (by rw [ow]; omega)
        cases hsp : pEf (pS (pk len tx) k) (pk len tx) (p + 1) with
        | mk p1 o =>
          cases o with
          | none =>
            refine ⟨fun p' h => ?_, fun p' t r h => by cases h⟩
            cases h
            exact push _ (hE.1 p1 hsp)
          | some t1 =>
            have q := fun r => hE.2 p1 t1 r hsp
            have q0 := q (0, none)
            have es : ∀ ts', stl 124 (40 :: W) ts' = (40 :: W, ts') := fun ts' => stl_E (Or.inr ⟨W, rfl⟩)
            have no : ¬ (pk len tx p1 = 38 ∨ pk len tx p1 = 124) := fun e => by rcases e with e | e; exact q0.2.1 e; exact q0.2.2.1 e
            by_cases h41 : pk len tx p1 = 41
            · have e2 : pSg 41 (pk len tx) p1 = (p1 + 1, some ()) := by unfold pSg; rw [if_pos h41]
              refine ⟨fun p' h => ?_, fun p' t r h h2 => ?_⟩
              · simp only [pbd, e2] at h; cases h
              · simp only [pbd, e2] at h
                cases h
                obtain ⟨f, h2⟩ := h2
                refine push _ ((q r).1 ⟨f + 1, ?_⟩)
                simp only [mch]
                rw [if_neg no, es, if_neg (by simp), if_pos h41]
                exact h2
            · have e2 : pSg 41 (pk len tx) p1 = (p1, none) := by unfold pSg; rw [if_neg h41]
              refine ⟨fun p' h => ?_, fun p' t r h h2 => ?_⟩
              · simp only [pbd, e2] at h
                cases h
                refine push _ ((q _).1 ⟨1, ?_⟩)
                simp only [mch]
                rw [if_neg no, es, if_neg (by simp), if_neg h41]
              · simp only [pbd, e2] at h; cases h
      · rw [if_neg h40]
        exact tst (fun e => by rcases e with e | e; exact h33 e; exact h40 e)
/-- an E, read from its start -/
theorem Rn_E {len : Nat} {tx : Nat → Nat} (hl : len ≤ 100) (p : Nat) : Rn (pk len tx) p true [] [] (pEf (pS (pk len tx) 4) (pk len tx) p) := by
  have hc : ∀ p, len ≤ p → pk len tx p = 256 := fun p h => by unfold pk; rw [if_neg (by omega)]
  have hs : ∀ p p' ts, pS (pk len tx) 4 p = (p', some ts) → p + 1 ≤ p' ∧ p' ≤ len := fun p p' ts h => by
    have := pS_some (len := len) (tx := tx) 4 p p' ts h
    exact ⟨this.2.1, this.2.2.1⟩
  have hE := RdEf (len := len) (RdS_k hl 4) hs hc hl (p := p) (B := []) (ts := []) (Or.inl rfl) rfl
  cases hsp : pEf (pS (pk len tx) 4) (pk len tx) p with
  | mk p1 o =>
    cases o with
    | none => exact hE.1 p1 hsp
    | some t1 =>
      have q := hE.2 p1 t1 (p1, some t1) hsp
      refine q.1 ⟨1, ?_⟩
      simp only [mch]
      rw [if_neg (fun e => by rcases e with e | e; exact q.2.1 e; exact q.2.2.1 e), stl_E (Or.inl rfl), if_pos rfl]
      rfl
