/-! the text of a house, read: the pure reader -/
def pk (len : Nat) (tx : Nat → Nat) (p : Nat) : Nat := if p < len then tx p else 256
def fnd : List Nat → Nat → Option Nat
  | [], _ => none
  | b :: bs, x => if b = x then some 0 else (fnd bs x).map (· + 1)
def pbd {α β : Type} (r : Nat × Option α) (f : Nat → α → Nat × Option β) : Nat × Option β := match r with
  | (p, none) => (p, none)
  | (p, some a) => f p a
def tyn (i : Nat) : List Nat := [[98, 97, 114, 32], [103, 108, 97, 100, 32], [103, 105, 118, 101, 32], [116, 97, 107, 101, 32], [48, 49, 50, 51], [97, 98, 99, 100, 114], [60, 61, 62], [48, 49, 50, 51, 52, 53, 54, 55, 56, 57]].getD i []
/-- one sign of a list -/
def pOne (i : Nat) (c : Nat → Nat) (p : Nat) : Nat × Option Nat := match fnd (tyn i) (c p) with
  | none => (p, none)
  | some j => (p + 1, some j)
def pSg (b : Nat) (c : Nat → Nat) (p : Nat) : Nat × Option Unit := if c p = b then (p + 1, some ()) else (p, none)
def pDig (c : Nat → Nat) : Nat → Nat → Nat → Nat × Nat
  | 0, p, x => (p, x)
  | m + 1, p, x => if 48 ≤ c p ∧ c p ≤ 57 then pDig c m (p + 1) (x * 10 + c p - 48) else (p, x)
def pNum (c : Nat → Nat) (most p : Nat) : Nat × Option Nat := pbd (pOne 7 c p) fun p' d => ((pDig c (most - 1) p' d).1, some (pDig c (most - 1) p' d).2)
def pTest (c : Nat → Nat) (p : Nat) : Nat × Option Nat := pbd (pOne 5 c p) fun p1 f => pbd (pOne 6 c p1) fun p2 s => pbd (pNum c 2 p2) fun p3 x => (p3, some (1000 * f + 100 * s + x))
def pBl (s : Nat → Nat × Option (List Nat)) (c : Nat → Nat) : Nat → Nat → List Nat → Nat × Option (List Nat)
  | 0, p, a => (p, some a)
  | f + 1, p, a => if c p = 38 then pbd (s (p + 1)) fun p' t => pBl s c f p' (a ++ t ++ [5038]) else (p, some a)
def pBf (s : Nat → Nat × Option (List Nat)) (c : Nat → Nat) (p : Nat) : Nat × Option (List Nat) := pbd (s p) fun p' t => pBl s c 100 p' t
def pEl (s : Nat → Nat × Option (List Nat)) (c : Nat → Nat) : Nat → Nat → List Nat → Nat × Option (List Nat)
  | 0, p, a => (p, some a)
  | f + 1, p, a => if c p = 124 then pbd (pBf s c (p + 1)) fun p' t => pEl s c f p' (a ++ t ++ [5124]) else (p, some a)
def pEf (s : Nat → Nat × Option (List Nat)) (c : Nat → Nat) (p : Nat) : Nat × Option (List Nat) := pbd (pBf s c p) fun p' t => pEl s c 100 p' t
def pS (c : Nat → Nat) : Nat → Nat → Nat × Option (List Nat)
  | 0, p => if c p = 33 ∨ c p = 40 then (p, none) else pbd (pTest c p) fun p' t => (p', some [t])
  | k + 1, p => if c p = 33 then pbd (pS c k (p + 1)) fun p' t => (p', some (t ++ [5033]))
    else if c p = 40 then pbd (pEf (pS c k) c (p + 1)) fun p' t => pbd (pSg 41 c p') fun p'' _ => (p'', some t)
    else pbd (pTest c p) fun p' t => (p', some [t])
def pWd (c : Nat → Nat) : List Nat → Nat → Nat × Option Unit
  | [], p => (p, some ())
  | b :: bs, p => if c p = b then pWd c bs (p + 1) else (p, none)
/-- a clause: its word (0 take, 1 glad, 2 bar, 3 give), 4 thing + state, number, tokens -/
abbrev Cls : Type := Nat × Nat × Nat × List Nat
def pTab (c : Nat → Nat) (w p : Nat) : Nat × Option Cls := pbd (pOne 4 c p) fun p1 a => pbd (pSg 32 c p1) fun p2 _ => pbd (pOne 4 c p2) fun p3 b => pbd (pSg 32 c p3) fun p4 _ => pbd (pNum c 3 p4) fun p5 x => (p5, some (w, 4 * a + b, x, []))
def pCl (c : Nat → Nat) (p : Nat) : Nat × Option Cls :=
  if c p = 98 then pbd (pWd c (tyn 0) p) fun p1 _ => pbd (pEf (pS c 4) c p1) fun p2 t => (p2, some (2, 0, 0, t))
  else if c p = 103 ∧ c (p + 1) = 108 then pbd (pWd c (tyn 1) p) fun p1 _ => pTab c 1 p1
  else if c p = 103 then pbd (pWd c (tyn 2) p) fun p1 _ => pbd (pNum c 3 p1) fun p2 x => (p2, some (3, 0, x, []))
  else pbd (pWd c (tyn 3) p) fun p1 _ => pTab c 0 p1
def pAll (c : Nat → Nat) (len : Nat) : Nat → Nat → List Cls → Nat × Option (List Cls)
  | 0, p, _ => (p, none)
  | m + 1, p, a => pbd (pCl c p) fun p' cl => if p' < len then (if m = 0 then (p', none) else if c p' = 59 then pAll c len m (p' + 1) (a ++ [cl]) else (p', none)) else (p', some (a ++ [cl]))
/-- the last number of a word of a state -/
def lst (w i : Nat) (cs : List Cls) : Nat := cs.foldl (fun v cl => if cl.1 = w ∧ (w = 3 ∨ cl.2.1 = i) then cl.2.2.1 else v) 0
/-- all bars' tokens -/
def btk (cs : List Cls) : List Nat := cs.flatMap fun cl => cl.2.2.2
theorem pbd_some {α β : Type} {r : Nat × Option α} {f : Nat → α → Nat × Option β} {p' : Nat} {b : β} (h : pbd r f = (p', some b)) : ∃ p a, r = (p, some a) ∧ f p a = (p', some b) := by
  obtain ⟨p, o⟩ := r
  cases o with
  | none => simp [pbd] at h
  | some a => exact ⟨p, a, rfl, h⟩
theorem pbd_eq {α β : Type} {r : Nat × Option α} {f : Nat → α → Nat × Option β} {p : Nat} {a : α} (h : r = (p, some a)) : pbd r f = f p a := by rw [h]; rfl
theorem pbd_no {α β : Type} {r : Nat × Option α} {f : Nat → α → Nat × Option β} {p : Nat} (h : r = (p, none)) : pbd r f = (p, none) := by rw [h]; rfl
theorem fnd_lt : ∀ {l : List Nat} {x j : Nat}, fnd l x = some j → j < l.length ∧ l.getD j 0 = x := by
  intro l
  induction l with
  | nil => intro x j h; cases h
  | cons b bs ih =>
    intro x j h
    unfold fnd at h
    by_cases hb : b = x
    · rw [if_pos hb] at h
      cases h
      exact ⟨by simp, by simpa using hb⟩
    · rw [if_neg hb] at h
      cases hf : fnd bs x with
      | none => rw [hf] at h; cases h
      | some i =>
        rw [hf] at h
        cases h
        have := ih hf
        exact ⟨by simp; omega, by simpa using this.2⟩
section PA
variable {len : Nat} {tx : Nat → Nat}
theorem pkc_lt {p b : Nat} (h : pk len tx p = b) (hb : b < 256) : p < len := by
  unfold pk at h
  by_cases hp : p < len
  · exact hp
  · rw [if_neg hp] at h; omega
theorem tyn_lt : ∀ i, i < 8 → ∀ j, j < (tyn i).length → (tyn i).getD j 0 < 128 := by decide +kernel
theorem pOne_some {i p p' j : Nat} (hi : i < 8) (h : pOne i (pk len tx) p = (p', some j)) : p' = p + 1 ∧ p < len ∧ j < (tyn i).length ∧ fnd (tyn i) (pk len tx p) = some j := by
  unfold pOne at h
  cases hf : fnd (tyn i) (pk len tx p) with
  | none => rw [hf] at h; cases h
  | some x =>
    rw [hf] at h
    obtain ⟨rfl, e⟩ := Prod.mk.injEq .. ▸ h
    cases e
    have hx := fnd_lt hf
    exact ⟨rfl, pkc_lt hx.2.symm (by have := tyn_lt i hi _ hx.1; omega), hx.1, rfl⟩
theorem pDig_le : ∀ {m p x : Nat}, p ≤ len → p ≤ (pDig (pk len tx) m p x).1 ∧ (pDig (pk len tx) m p x).1 ≤ len := by
  intro m
  induction m with
  | zero => intro p x h; exact ⟨Nat.le_refl _, h⟩
  | succ m ih =>
    intro p x h
    unfold pDig
    by_cases hd : 48 ≤ pk len tx p ∧ pk len tx p ≤ 57
    · rw [if_pos hd]
      have := @ih (p + 1) (x * 10 + pk len tx p - 48) (pkc_lt (b := pk len tx p) rfl (by omega))
      omega
    · rw [if_neg hd]; exact ⟨Nat.le_refl _, h⟩
theorem pDig_lt : ∀ {m p x n : Nat}, x < 10 ^ n → (pDig (pk len tx) m p x).2 < 10 ^ (n + m) := by
  intro m
  induction m with
  | zero => intro p x n h; exact h
  | succ m ih =>
    intro p x n h
    unfold pDig
    by_cases hd : 48 ≤ pk len tx p ∧ pk len tx p ≤ 57
    · rw [if_pos hd, show n + (m + 1) = n + 1 + m by omega]
      exact ih (by rw [Nat.pow_succ]; omega)
    · rw [if_neg hd]
      exact Nat.lt_of_lt_of_le h (Nat.pow_le_pow_right (by decide) (by omega))
theorem pNum_some {m p p' x : Nat} (h : pNum (pk len tx) m p = (p', some x)) : p + 1 ≤ p' ∧ p' ≤ len ∧ x < 10 ^ (1 + (m - 1)) := by
  obtain ⟨p1, d, h1, h2⟩ := pbd_some h
  obtain ⟨rfl, hp, hd, -⟩ := pOne_some (by decide) h1
  obtain ⟨e1, e2⟩ := Prod.mk.injEq .. ▸ h2
  cases e2
  have := pDig_le (tx := tx) (m := m - 1) (x := d) (show p + 1 ≤ len from hp)
  rw [← e1]
  exact ⟨this.1, this.2, pDig_lt (n := 1) (by simpa [tyn] using hd)⟩
theorem pTest_some {p p' t : Nat} (h : pTest (pk len tx) p = (p', some t)) : p + 1 ≤ p' ∧ p' ≤ len ∧ t / 1000 < 5 ∧ t / 100 % 10 < 3 ∧ t < 5000 := by
  obtain ⟨p1, f, h1, h2⟩ := pbd_some h
  obtain ⟨p2, s, h3, h4⟩ := pbd_some h2
  obtain ⟨p3, x, h5, h6⟩ := pbd_some h4
  obtain ⟨rfl, hp1, hf, -⟩ := pOne_some (by decide) h1
  obtain ⟨rfl, hp2, hs, -⟩ := pOne_some (by decide) h3
  obtain ⟨h7, h8, h9⟩ := pNum_some h5
  obtain ⟨rfl, e2⟩ := Prod.mk.injEq .. ▸ h6
  cases e2
  simp [tyn] at hf hs h9
  omega
/-- what a reader of an operand keeps: it goes on, makes no more tokens than it reads signs, and they stand -/
def okS (len : Nat) (m : Nat) (s : Nat → Nat × Option (List Nat)) : Prop := ∀ p p' ts, s p = (p', some ts) → p + ts.length ≤ p' ∧ p + 1 ≤ p' ∧ p' ≤ len ∧ ∀ h, h + m ≤ 24 → okr ts h ∧ hgt ts h = h + 1
theorem okr_app : ∀ {a b : List Nat} {h : Nat}, okr (a ++ b) h ↔ okr a h ∧ okr b (hgt a h) := by
  intro a
  induction a with
  | nil => intro b h; simp [okr, hgt]
  | cons t a ih =>
    intro b h
    simp only [List.cons_append, okr, hgt]
    by_cases h1 : t = 5033
    · simp only [if_pos h1, ih, and_assoc]
    · by_cases h2 : t = 5038 ∨ t = 5124
      · simp only [if_neg h1, if_pos h2, ih, and_assoc]
      · simp only [if_neg h1, if_neg h2, ih, and_assoc]
theorem hgt_app : ∀ {a b : List Nat} {h : Nat}, hgt (a ++ b) h = hgt b (hgt a h) := by
  intro a
  induction a with
  | nil => intro b h; rfl
  | cons t a ih => intro b h; simp only [List.cons_append, hgt]; exact ih
theorem pBl_some {s : Nat → Nat × Option (List Nat)} {m : Nat} (ok : okS len m s) : ∀ {f p p' : Nat} {a ts : List Nat}, pBl s (pk len tx) f p a = (p', some ts) → p ≤ len → p ≤ p' ∧ p' ≤ len ∧ ∃ b, ts = a ++ b ∧ p + b.length ≤ p' ∧ ∀ h, h + 1 + m ≤ 24 → okr b (h + 1) ∧ hgt b (h + 1) = h + 1 := by
  intro f
  induction f with
  | zero =>
    intro p p' a ts h hp
    cases h
    exact ⟨Nat.le_refl _, hp, [], by simp, by simp, fun h _ => ⟨trivial, rfl⟩⟩
  | succ f ih =>
    intro p p' a ts h hp
    unfold pBl at h
    by_cases hc : pk len tx p = 38
    · rw [if_pos hc] at h
      obtain ⟨p1, t, h1, h2⟩ := pbd_some h
      obtain ⟨o1, o1b, o2, o3⟩ := ok _ _ _ h1
      obtain ⟨q1, q2, b, q3, q4, q5⟩ := ih h2 o2
      refine ⟨by omega, q2, t ++ [5038] ++ b, by rw [q3]; simp, by simp; omega, fun x hx => ?_⟩
      obtain ⟨r1, r2⟩ := o3 (x + 1) hx
      rw [List.append_assoc, okr_app, hgt_app, okr_app, hgt_app, r2]
      refine ⟨⟨r1, ⟨by omega, trivial⟩, ?_⟩, ?_⟩
      · exact (q5 x hx).1
      · exact (q5 x hx).2
    · rw [if_neg hc] at h
      cases h
      exact ⟨Nat.le_refl _, hp, [], by simp, by simp, fun h _ => ⟨trivial, rfl⟩⟩
theorem pBf_some {s : Nat → Nat × Option (List Nat)} {m : Nat} (ok : okS len m s) : okS len (m + 1) (pBf s (pk len tx)) := by
  intro p p' ts h
  obtain ⟨p1, t, h1, h2⟩ := pbd_some h
  obtain ⟨o1, o1b, o2, o3⟩ := ok _ _ _ h1
  obtain ⟨q1, q2, b, rfl, q4, q5⟩ := pBl_some ok h2 o2
  refine ⟨by simp; omega, by omega, q2, fun x hx => ?_⟩
  obtain ⟨r1, r2⟩ := o3 x (by omega)
  rw [okr_app, hgt_app, r2]
  exact ⟨⟨r1, (q5 x (by omega)).1⟩, (q5 x (by omega)).2⟩
theorem pEl_some {s : Nat → Nat × Option (List Nat)} {m : Nat} (ok : okS len m s) : ∀ {f p p' : Nat} {a ts : List Nat}, pEl s (pk len tx) f p a = (p', some ts) → p ≤ len → p ≤ p' ∧ p' ≤ len ∧ ∃ b, ts = a ++ b ∧ p + b.length ≤ p' ∧ ∀ h, h + 1 + (m + 1) ≤ 24 → okr b (h + 1) ∧ hgt b (h + 1) = h + 1 := by
  intro f
  induction f with
  | zero =>
    intro p p' a ts h hp
    cases h
    exact ⟨Nat.le_refl _, hp, [], by simp, by simp, fun h _ => ⟨trivial, rfl⟩⟩
  | succ f ih =>
    intro p p' a ts h hp
    unfold pEl at h
    by_cases hc : pk len tx p = 124
    · rw [if_pos hc] at h
      obtain ⟨p1, t, h1, h2⟩ := pbd_some h
      obtain ⟨o1, o1b, o2, o3⟩ := pBf_some ok _ _ _ h1
      obtain ⟨q1, q2, b, q3, q4, q5⟩ := ih h2 o2
      refine ⟨by omega, q2, t ++ [5124] ++ b, by rw [q3]; simp, by simp; omega, fun x hx => ?_⟩
      obtain ⟨r1, r2⟩ := o3 (x + 1) hx
      rw [List.append_assoc, okr_app, hgt_app, okr_app, hgt_app, r2]
      refine ⟨⟨r1, ⟨by omega, trivial⟩, ?_⟩, ?_⟩
      · exact (q5 x hx).1
      · exact (q5 x hx).2
    · rw [if_neg hc] at h
      cases h
      exact ⟨Nat.le_refl _, hp, [], by simp, by simp, fun h _ => ⟨trivial, rfl⟩⟩
theorem pEf_some {s : Nat → Nat × Option (List Nat)} {m : Nat} (ok : okS len m s) : okS len (m + 2) (pEf s (pk len tx)) := by
  intro p p' ts h
  obtain ⟨p1, t, h1, h2⟩ := pbd_some h
  obtain ⟨o1, o1b, o2, o3⟩ := pBf_some ok _ _ _ h1
  obtain ⟨q1, q2, b, rfl, q4, q5⟩ := pEl_some ok h2 o2
  refine ⟨by simp; omega, by omega, q2, fun x hx => ?_⟩
  obtain ⟨r1, r2⟩ := o3 x (by omega)
  rw [okr_app, hgt_app, r2]
  exact ⟨⟨r1, (q5 x (by omega)).1⟩, (q5 x (by omega)).2⟩
theorem pS_some : ∀ k, okS len (2 * k + 1) (pS (pk len tx) k) := by
  have tst : ∀ {k p p' : Nat} {ts : List Nat}, (pbd (pTest (pk len tx) p) fun p' t => (p', some [t])) = (p', some ts) → p + ts.length ≤ p' ∧ p + 1 ≤ p' ∧ p' ≤ len ∧ ∀ h, h + (2 * k + 1) ≤ 24 → okr ts h ∧ hgt ts h = h + 1 := by
    intro k p p' ts h
    obtain ⟨p1, t, h1, h2⟩ := pbd_some h
    obtain ⟨q1, q2, q3, q4, q5⟩ := pTest_some h1
    cases h2
    refine ⟨by simpa using q1, q1, q2, fun x hx => ?_⟩
    have n1 : ¬ t = 5033 := by omega
    have n2 : ¬ (t = 5038 ∨ t = 5124) := by omega
    simp only [okr, hgt, if_neg n1, if_neg n2]
    exact ⟨⟨⟨q3, q4, by omega⟩, trivial⟩, trivial⟩
  intro k
  induction k with
  | zero =>
    intro p p' ts h
    unfold pS at h
    by_cases hc : pk len tx p = 33 ∨ pk len tx p = 40
    · rw [if_pos hc] at h; cases h
    · rw [if_neg hc] at h
      exact tst h
  | succ k ih =>
    intro p p' ts h
    unfold pS at h
    by_cases hc : pk len tx p = 33
    · rw [if_pos hc] at h
      obtain ⟨p1, t, h1, h2⟩ := pbd_some h
      obtain ⟨q1, q1b, q2, q3⟩ := ih _ _ _ h1
      cases h2
      refine ⟨by simp; omega, by omega, q2, fun x hx => ?_⟩
      obtain ⟨r1, r2⟩ := q3 x (by omega)
      rw [okr_app, hgt_app, r2]
      exact ⟨⟨r1, by omega, trivial⟩, rfl⟩
    · rw [if_neg hc] at h
      by_cases hc2 : pk len tx p = 40
      · rw [if_pos hc2] at h
        obtain ⟨p1, t, h1, h2⟩ := pbd_some h
        obtain ⟨q1, q1b, q2, q3⟩ := pEf_some ih _ _ _ h1
        obtain ⟨p2, u, h3, h4⟩ := pbd_some h2
        unfold pSg at h3
        by_cases hc3 : pk len tx p1 = 41
        · rw [if_pos hc3] at h3
          cases h3
          cases h4
          have := pkc_lt hc3 (by decide)
          exact ⟨by omega, by omega, this, fun x hx => q3 x (by omega)⟩
        · rw [if_neg hc3] at h3; cases h3
      · rw [if_neg hc2] at h
        exact tst h
end PA
