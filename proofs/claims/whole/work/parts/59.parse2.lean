/-! what a parse keeps -/
section PB
variable {len : Nat} {tx : Nat → Nat}
theorem pTab_ok {w p p' : Nat} {cl : Cls} (h : pTab (pk len tx) w p = (p', some cl)) : cl.2.2.1 ≤ 999 ∧ cl.2.2.2 = [] := by
  obtain ⟨p1, a, h1, h⟩ := pbd_some h
  obtain ⟨p2, _, h2, h⟩ := pbd_some h
  obtain ⟨p3, b, h3, h⟩ := pbd_some h
  obtain ⟨p4, _, h4, h⟩ := pbd_some h
  obtain ⟨p5, x, h5, h⟩ := pbd_some h
  obtain ⟨q1, q2, q3⟩ := pNum_some h5
  cases h
  exact ⟨by simp at q3 ⊢; omega, rfl⟩
theorem pCl_ok {p p' : Nat} {cl : Cls} (h : pCl (pk len tx) p = (p', some cl)) : cl.2.2.1 ≤ 999 ∧ (cl.2.2.2 = [] ∨ ∀ h, h + 11 ≤ 24 → okr cl.2.2.2 h ∧ hgt cl.2.2.2 h = h + 1) := by
  unfold pCl at h
  split at h
  · obtain ⟨p1, _, h1, h⟩ := pbd_some h
    obtain ⟨p2, t, h2, h⟩ := pbd_some h
    cases h
    have := pEf_some (pS_some (len := len) (tx := tx) 4) _ _ _ h2
    exact ⟨by simp, Or.inr (fun x hx => this.2.2.2 x (by omega))⟩
  · split at h
    · obtain ⟨p1, _, h1, h⟩ := pbd_some h
      have := pTab_ok h
      exact ⟨this.1, Or.inl this.2⟩
    · split at h
      · obtain ⟨p1, _, h1, h⟩ := pbd_some h
        obtain ⟨p2, x, h2, h⟩ := pbd_some h
        obtain ⟨q1, q2, q3⟩ := pNum_some h2
        cases h
        exact ⟨by simp at q3 ⊢; omega, Or.inl rfl⟩
      · obtain ⟨p1, _, h1, h⟩ := pbd_some h
        have := pTab_ok h
        exact ⟨this.1, Or.inl this.2⟩
theorem pAll_ok : ∀ {m p p' : Nat} {a cs : List Cls}, pAll (pk len tx) len m p a = (p', some cs) → m ≤ 12 → (∀ cl, cl ∈ a → cl.2.2.1 ≤ 999) → okr (btk a) 0 → hgt (btk a) 0 + m ≤ 12 → a.length + m ≤ 12 → (∀ cl, cl ∈ cs → cl.2.2.1 ≤ 999) ∧ okr (btk cs) 0 ∧ cs.length ≤ 12 := by
  intro m
  induction m with
  | zero => intro p p' a cs h; cases h
  | succ m ih =>
    intro p p' a cs h hm ha ho hg hl
    unfold pAll at h
    obtain ⟨p1, cl, h1, h2⟩ := pbd_some h
    have hcl := pCl_ok h1
    have a1 : ∀ c, c ∈ a ++ [cl] → c.2.2.1 ≤ 999 := fun c hc => by
      rcases List.mem_append.mp hc with hc | hc
      · exact ha c hc
      · rw [List.mem_singleton] at hc; subst hc; exact hcl.1
    have a2 : okr (btk (a ++ [cl])) 0 ∧ hgt (btk (a ++ [cl])) 0 + m ≤ 12 := by
      rw [btk_app, okr_app, hgt_app]
      rcases hcl.2 with e | e
      · rw [e]
        exact ⟨⟨ho, trivial⟩, by simp only [hgt]; omega⟩
      · have := e (hgt (btk a) 0) (by omega)
        exact ⟨⟨ho, this.1⟩, by omega⟩
    have a3 : (a ++ [cl]).length + m ≤ 12 := by simp; omega
    split at h2
    · split at h2
      · cases h2
      · split at h2
        · exact ih h2 (by omega) a1 a2.1 a2.2 a3
        · cases h2
    · cases h2
      exact ⟨a1, a2.1, by omega⟩
theorem lst_le {w i : Nat} {cs : List Cls} (h : ∀ cl, cl ∈ cs → cl.2.2.1 ≤ 999) : lst w i cs ≤ 999 := by
  unfold lst
  have : ∀ (cs : List Cls) v, (∀ cl, cl ∈ cs → cl.2.2.1 ≤ 999) → v ≤ 999 → cs.foldl (fun v cl => if cl.1 = w ∧ (w = 3 ∨ cl.2.1 = i) then cl.2.2.1 else v) v ≤ 999 := by
    intro cs
    induction cs with
    | nil => intro v _ hv; exact hv
    | cons c cs ih =>
      intro v h hv
      rw [List.foldl_cons]
      refine ih _ (fun cl hcl => h cl (List.mem_cons_of_mem _ hcl)) ?_
      split
      · exact h c List.mem_cons_self
      · exact hv
  exact this cs 0 h (by decide)
theorem RC_HS {h p p' : Nat} {cs : List Cls} {I : cm_I} (hp : pAll (pk len tx) len 12 0 [] = (p', some cs)) (S : RC h len tx cs p I) : HS h cs I := by
  obtain ⟨q1, q2, q3⟩ := pAll_ok hp (by decide) (by simp) trivial (by decide) (by decide)
  obtain ⟨s1, s2, s3, s4, s5, s6⟩ := S
  exact ⟨s6, by have := s1.2.1; omega, q2, fun i _ => ⟨lst_le q1, lst_le q1⟩, lst_le q1⟩
end PB
/-! numbers of the feed -/
def byt (x : Int32) (i : Nat) : Nat := x.toUInt32.toNat / 256 ^ i % 256
theorem ush_byte {x : Int32} {i : Nat} (hi : i < 4) : ((x.toUInt32 >>> ((nI (8 * i)).toUInt32 &&& Int32.toUInt32 31)).toInt32 &&& nI 255) = nI (byt x i) := by
  apply Int32.toBitVec_inj.mp
  apply BitVec.eq_of_toNat_eq
  have h31 : ∀ i, i < 4 → (((nI (8 * i)).toUInt32 &&& Int32.toUInt32 31).toBitVec % 32) = BitVec.ofNat 32 (8 * i) := by decide +kernel
  rw [Int32.toBitVec_and, BitVec.toNat_and, UInt32.toBitVec_toInt32, UInt32.toBitVec_shiftRight, h31 i hi, BitVec.ushiftRight_eq', BitVec.toNat_ofNat, Nat.mod_eq_of_lt (by omega), BitVec.toNat_ushiftRight, Nat.shiftRight_eq_div_pow]
  have e : (2 : Nat) ^ (8 * i) = 256 ^ i := by rw [Nat.pow_mul]
  rw [e]
  show (x.toUInt32.toNat / 256 ^ i) &&& 255 = byt x i % 4294967296
  rw [show 255 = 2 ^ 8 - 1 from rfl, Nat.and_two_pow_sub_one_eq_mod]
  unfold byt
  rw [show (2 : Nat) ^ 8 = 256 from rfl]
  omega
