/-! HouseReader: signs, numbers, tests -/
def bvI (c : Nat) : Int32 := if c < 256 then nI c else -1
theorem bvI_lt {c : Nat} (h : c < 256) : bvI c = nI c := if_pos h
theorem bvI_eq : ∀ c, c < 257 → ∀ k, k < 128 → (bvI c = nI k ↔ c = k) := by decide +kernel
def nmd (toks : List Nat) : Nat := toks.foldl (fun a t => if t < 5000 then a ||| 2 ^ (t / 1000) else a) 0
theorem nmd_app (a : List Nat) (t : Nat) : nmd (a ++ [t]) = if t < 5000 then nmd a ||| 2 ^ (t / 1000) else nmd a := by simp [nmd]
theorem nmd_lt' : ∀ {l : List Nat} {a : Nat}, a < 32 → l.foldl (fun a t => if t < 5000 then a ||| 2 ^ (t / 1000) else a) a < 32 := by
  intro l
  induction l with
  | nil => intro a h; exact h
  | cons t l ih =>
    intro a h
    simp only [List.foldl_cons]
    apply ih
    by_cases ht : t < 5000
    · rw [if_pos ht]
      exact Nat.or_lt_two_pow (n := 5) h (Nat.pow_lt_pow_right (by decide) (by omega))
    · rw [if_neg ht]; exact h
theorem nmd_lt (l : List Nat) : nmd l < 32 := nmd_lt' (by decide)
theorem or_bit : ∀ a, a < 5 → ∀ m, m < 32 → nI m ||| nI 1 <<< (nI a &&& 31) = nI (m ||| 2 ^ a) := by decide +kernel
theorem fnd_none : ∀ {l : List Nat} {x : Nat}, (∀ i, i < l.length → ¬ l.getD i 0 = x) → fnd l x = none := by
  intro l
  induction l with
  | nil => intro x _; rfl
  | cons b bs ih =>
    intro x h
    have h0 := h 0 (by simp)
    simp at h0
    unfold fnd
    rw [if_neg h0, ih fun i hi => by have := h (i + 1) (by simp; omega); simpa using this]
    rfl
theorem fnd_at : ∀ {l : List Nat} {x j : Nat}, j < l.length → l.getD j 0 = x → (∀ i, i < j → ¬ l.getD i 0 = x) → fnd l x = some j := by
  intro l
  induction l with
  | nil => intro x j h; simp at h
  | cons b bs ih =>
    intro x j hj he hn
    unfold fnd
    cases j with
    | zero => rw [if_pos (by simpa using he)]
    | succ j =>
      have h0 := hn 0 (by omega)
      simp at h0
      rw [if_neg h0, ih (by simpa using hj) (by simpa using he) (fun i hi => by have := hn (i + 1) (by omega); simpa using this)]
      rfl
def TX (len : Nat) (tx : Nat → Nat) (I : cm_I) : Prop := I 7 1 = nI len ∧ len ≤ 100 ∧ ∀ p, p < len → I 8 p = nI (tx p) ∧ tx p < 256
/-- what a house holds -/
def HC (h : Nat) (tk gl : Nat → Nat) (gv : Nat) (toks : List Nat) (I : cm_I) : Prop := (∀ i, i < 16 → I (hA h + 1) i = nI (tk i)) ∧ (∀ i, i < 16 → I (hA h + 2) i = nI (gl i)) ∧ I (hA h) 3 = nI toks.length ∧ (∀ i t, toks[i]? = some t → I (hA h + 3) i = ctk t) ∧ I (hA h) 4 = nI (nmd toks) ∧ I (hA h) 5 = nI gv
def RS (h len : Nat) (tx tk gl : Nat → Nat) (gv : Nat) (toks : List Nat) (p : Nat) (I : cm_I) : Prop := TX len tx I ∧ p ≤ len ∧ I 9 2 = nI p ∧ I 9 3 = 1 ∧ toks.length ≤ p ∧ HC h tk gl gv toks I
def RF (h len : Nat) (tx : Nat → Nat) (p : Nat) (I : cm_I) : Prop := TX len tx I ∧ p ≤ len ∧ I 9 2 = nI p ∧ I 9 3 = 0 ∧ ∃ m, m ≤ 100 ∧ I (hA h) 3 = nI m
def FR (h : Nat) (I I' : cm_I) : Prop := ∀ b, b ≠ 9 → (b < hA h ∨ hA h + 3 < b) → I' b = I b
theorem FR_rfl {h : Nat} {I : cm_I} : FR h I I := fun _ _ _ => rfl
theorem FR_tr {h : Nat} {I I' I'' : cm_I} (a : FR h I I') (b : FR h I' I'') : FR h I I'' := fun c h1 h2 => (b c h1 h2).trans (a c h1 h2)
theorem hA_ge (h : Nat) : 11 ≤ hA h := by unfold hA; split <;> omega
section RDR
variable {h len p : Nat} {tx tk gl : Nat → Nat} {gv : Nat} {toks : List Nat} {I : cm_I}
theorem pkc_le (T : TX len tx I) (p : Nat) : pk len tx p < 257 := by
  unfold pk
  by_cases hp : p < len
  · rw [if_pos hp]; have := (T.2.2 p hp).2; omega
  · rw [if_neg hp]; omega
theorem FR_9 {k : Nat} {v : Int32} : FR h I (cm_u I 9 k v) := fun b hb _ => cm_u_ne hb
theorem HC_9 {k : Nat} {v : Int32} (H : HC h tk gl gv toks I) : HC h tk gl gv toks (cm_u I 9 k v) := by
  have := hA_ge h
  obtain ⟨a, b, c, d, e, f⟩ := H
  refine ⟨?_, ?_, ?_, ?_, ?_, ?_⟩ <;> rw [cm_u_ne (by omega)] <;> assumption
theorem TX_fr {I' : cm_I} (T : TX len tx I) (f : FR h I I') : TX len tx I' := by
  have := hA_ge h
  obtain ⟨a, b, c⟩ := T
  refine ⟨?_, b, ?_⟩
  · rw [f 7 (by omega) (by omega)]; exact a
  · rw [f 8 (by omega) (by omega)]; exact c
theorem RS_mv (S : RS h len tx tk gl gv toks p I) (hp : p < len) : RS h len tx tk gl gv toks (p + 1) (cm_u I 9 2 (nI (p + 1))) := by
  obtain ⟨a, b, c, d, e, f⟩ := S
  exact ⟨TX_fr (h := h) a FR_9, hp, rfl, by rw [cm_uu]; exact d, by omega, HC_9 f⟩
theorem RS_r1 (S : RS h len tx tk gl gv toks p I) : RS h len tx tk gl gv toks p (cm_u I 9 3 (nI 1)) := by
  obtain ⟨a, b, c, d, e, f⟩ := S
  exact ⟨TX_fr (h := h) a FR_9, b, by rw [cm_uu]; exact c, rfl, e, HC_9 f⟩
theorem RS_no (S : RS h len tx tk gl gv toks p I) : RF h len tx p (cm_u I 9 3 (nI 0)) := by
  have := hA_ge h
  obtain ⟨a, b, c, d, e, f⟩ := S
  refine ⟨TX_fr (h := h) a FR_9, b, by rw [cm_uu]; exact c, rfl, toks.length, by have := a.2.1; omega, ?_⟩
  rw [cm_u_ne (by omega)]; exact f.2.2.1
theorem RF_no (S : RF h len tx p I) : RF h len tx p (cm_u I 9 3 (nI 0)) := by
  have := hA_ge h
  obtain ⟨a, b, c, d, m, e, f⟩ := S
  refine ⟨TX_fr (h := h) a FR_9, b, by rw [cm_uu]; exact c, rfl, m, e, ?_⟩
  rw [cm_u_ne (by omega)]; exact f
theorem FR_hs {k : Nat} {v w : Int32} : FR h I (cm_u (cm_u I (hA h + 3) k v) (hA h) 3 w) := fun b _ hb => by rw [cm_u_ne (by omega), cm_u_ne (by omega)]
theorem FR_hs' {k : Nat} {u v w : Int32} : FR h I (cm_u (cm_u (cm_u I (hA h) 4 u) (hA h + 3) k v) (hA h) 3 w) := fun b _ hb => by rw [cm_u_ne (by omega), cm_u_ne (by omega), cm_u_ne (by omega)]
theorem HC_op {t : Nat} (ht : ¬ t < 5000) (H : HC h tk gl gv toks I) : HC h tk gl gv (toks ++ [t]) (cm_u (cm_u I (hA h + 3) toks.length (ctk t)) (hA h) 3 (nI (toks.length + 1))) := by
  obtain ⟨a, b, c, d, e, f⟩ := H
  refine ⟨?_, ?_, ?_, ?_, ?_, ?_⟩
  · rw [cm_u_ne (by omega), cm_u_ne (by omega)]; exact a
  · rw [cm_u_ne (by omega), cm_u_ne (by omega)]; exact b
  · rw [cm_uu]; simp
  · intro i x hx
    rw [cm_u_ne (by omega), cm_uu]
    show (if i = toks.length then _ else _) = _
    by_cases hi : i = toks.length
    · subst hi
      rw [if_pos rfl]
      simp at hx
      rw [hx]
    · rw [if_neg hi]
      by_cases h2 : i < toks.length
      · rw [List.getElem?_append_left h2] at hx
        exact d i x hx
      · rw [List.getElem?_append_right (by omega)] at hx
        rw [List.getElem?_eq_none (by simp; omega)] at hx
        cases hx
  · rw [nmd_app, if_neg ht, cm_uu]
    show (if 4 = 3 then _ else _) = _
    rw [if_neg (by decide), cm_u_ne (by omega)]; exact e
  · rw [cm_uu]
    show (if 5 = 3 then _ else _) = _
    rw [if_neg (by decide), cm_u_ne (by omega)]; exact f
theorem HC_test {f s x : Nat} (hf : f < 5) (hs : s < 3) (hx : x < 100) (H : HC h tk gl gv toks I) : HC h tk gl gv (toks ++ [1000 * f + 100 * s + x]) (cm_u (cm_u (cm_u I (hA h) 4 (nI (nmd toks) ||| nI 1 <<< (nI f &&& 31))) (hA h + 3) toks.length (nI ((x * 3 + s) * 5 + f))) (hA h) 3 (nI (toks.length + 1))) := by
  obtain ⟨a, b, c, d, e, f'⟩ := H
  have ec : ctk (1000 * f + 100 * s + x) = nI ((x * 3 + s) * 5 + f) := by
    unfold ctk cct
    rw [if_neg (by omega), if_neg (by omega), if_neg (by omega)]
    congr 2
    · omega
    · omega
  refine ⟨?_, ?_, ?_, ?_, ?_, ?_⟩
  · rw [cm_u_ne (by omega), cm_u_ne (by omega), cm_u_ne (by omega)]; exact a
  · rw [cm_u_ne (by omega), cm_u_ne (by omega), cm_u_ne (by omega)]; exact b
  · rw [cm_uu]; simp
  · intro i y hy
    rw [cm_u_ne (by omega), cm_uu]
    show (if i = toks.length then _ else _) = _
    by_cases hi : i = toks.length
    · subst hi
      rw [if_pos rfl]
      simp at hy
      rw [← hy, ec]
    · rw [if_neg hi, cm_u_ne (by omega)]
      by_cases h2 : i < toks.length
      · rw [List.getElem?_append_left h2] at hy
        exact d i y hy
      · rw [List.getElem?_append_right (by omega)] at hy
        rw [List.getElem?_eq_none (by simp; omega)] at hy
        cases hy
  · rw [nmd_app, if_pos (by omega), cm_uu]
    show (if 4 = 3 then _ else _) = _
    rw [if_neg (by decide), cm_u_ne (by omega), cm_uu]
    show (if 4 = 4 then _ else _) = _
    rw [if_pos rfl, or_bit f hf _ (nmd_lt toks), show (1000 * f + 100 * s + x) / 1000 = f by omega]
  · rw [cm_uu]
    show (if 5 = 3 then _ else _) = _
    rw [if_neg (by decide), cm_u_ne (by omega), cm_uu]
    show (if 5 = 4 then _ else _) = _
    rw [if_neg (by decide)]; exact f'
end RDR
section K12
variable {l : Launch} {g : cm_G} {I : cm_I} {L : cm_L} {n h len p : Nat} {tl : Option Nat} {Q : cm_Post} {tx tk gl : Nat → Nat} {gv : Nat} {toks : List Nat}
theorem c_bA {hr : Option Nat} {t : Nat} (T : TX len tx I) (hp : p < 1000) (hQ : Q (some (.int (bvI (pk len tx p)))) I L (RR t hr tl) (DD t)) : cm_Ex l g 1 0 0 mX8_byteAt 0 [.ref 7, .int (nI p)] [] I L (RR t hr tl) (DD t) Q := by
  refine c_X8_byteAt T.1 T.2.1 hp ?_
  unfold pk at hQ
  by_cases h : p < len
  · rw [if_pos h] at hQ ⊢
    rw [(T.2.2 p h).1]
    rw [bvI_lt (T.2.2 p h).2] at hQ
    exact hQ
  · rw [if_neg h] at hQ ⊢
    exact hQ
theorem c_X2_readSign {b : Nat} (hb : b < 128) (S : RS h len tx tk gl gv toks p I) (hok : ∀ I', pSg b (pk len tx) p = (p + 1, some ()) → RS h len tx tk gl gv toks (p + 1) I' → FR h I I' → Q none I' L (RR n (some (hA h)) tl) (DD n)) (hno : ∀ I', pSg b (pk len tx) p = (p, none) → RF h len tx p I' → FR h I I' → Q none I' L (RR n (some (hA h)) tl) (DD n)) : cm_Ex l g 2 0 0 mX2_readSign 0 [.ref 9, .int (nI b)] [] I L (RR n (some (hA h)) tl) (DD n) Q := by
  have hl := S.1.2.1
  have hp := S.2.1
  have hb2 := bvI_eq _ (pkc_le S.1 p) b hb
  by_cases hc : pk len tx p = b
  · have S1 := RS_r1 S
    refine x_aldn qX2_readSign_0 rfl trivial ?_
    refine x_aldn qX2_readSign_1 rfl trivial ?_
    refine x_getZe qX2_readSign_2 fX2_19 dd_9 S.2.2.2.1 ?_
    refine x_if_eq_f (tgt := 27) qX2_readSign_5 (by omega) (by decide) ?_
    refine x_aldn qX2_readSign_8 rfl trivial ?_
    refine x_getR qX2_readSign_9 fX2_23 dd_9 rfl ?_
    refine x_aldn qX2_readSign_12 rfl trivial ?_
    refine x_getIe qX2_readSign_13 fX2_15 dd_9 S.2.2.1 ?_
    refine x_cV1 (d' := 1) qX2_readSign_16 cX2_44 dd_7 ⟨_, rfl, rfl⟩ rfl rfl (Nat.le_of_ble_eq_true rfl) (Nat.le_of_ble_eq_true rfl) (by decide) ?_
    refine c_bA S.1 (by omega) ?_
    refine x_ildn qX2_readSign_19 rfl ?_
    refine x_icmp_ne_f (tgt := 27) qX2_readSign_20 (by omega) (hb2.mpr hc) ?_
    refine x_iconst (v := nI 1) qX2_readSign_23 rfl ?_
    refine x_goto (tgt := 28) qX2_readSign_24 (by omega) ?_
    refine x_putZ qX2_readSign_28 fX2_19 (Or.inl rfl) dd_9 (by decide) ?_
    refine x_aldn qX2_readSign_31 rfl trivial ?_
    refine x_getZe qX2_readSign_32 fX2_19 dd_9 (show cm_u I 9 3 (nI 1) 9 3 = 1 from rfl) ?_
    refine x_if_eq_f (tgt := 48) qX2_readSign_35 (by omega) (by decide) ?_
    refine x_aldn qX2_readSign_38 rfl trivial ?_
    refine x_dup qX2_readSign_39 rfl ?_
    refine x_getIe qX2_readSign_40 fX2_15 dd_9 S1.2.2.1 ?_
    refine x_iconst (v := nI 1) qX2_readSign_43 rfl ?_
    refine x_iadd_n qX2_readSign_44 ?_
    refine x_putI qX2_readSign_45 fX2_15 (Or.inl rfl) dd_9 ?_
    refine x_vret qX2_readSign_48 rfl ?_
    exact hok _ (if_pos hc) (RS_mv S1 (pkc_lt hc (by omega))) (FR_tr FR_9 FR_9)
  · refine x_aldn qX2_readSign_0 rfl trivial ?_
    refine x_aldn qX2_readSign_1 rfl trivial ?_
    refine x_getZe qX2_readSign_2 fX2_19 dd_9 S.2.2.2.1 ?_
    refine x_if_eq_f (tgt := 27) qX2_readSign_5 (by omega) (by decide) ?_
    refine x_aldn qX2_readSign_8 rfl trivial ?_
    refine x_getR qX2_readSign_9 fX2_23 dd_9 rfl ?_
    refine x_aldn qX2_readSign_12 rfl trivial ?_
    refine x_getIe qX2_readSign_13 fX2_15 dd_9 S.2.2.1 ?_
    refine x_cV1 (d' := 1) qX2_readSign_16 cX2_44 dd_7 ⟨_, rfl, rfl⟩ rfl rfl (Nat.le_of_ble_eq_true rfl) (Nat.le_of_ble_eq_true rfl) (by decide) ?_
    refine c_bA S.1 (by omega) ?_
    refine x_ildn qX2_readSign_19 rfl ?_
    refine x_icmp_ne_t (tgt := 27) qX2_readSign_20 (by omega) (fun e => hc (hb2.mp e)) ?_
    refine x_iconst (v := nI 0) qX2_readSign_27 rfl ?_
    refine x_putZ qX2_readSign_28 fX2_19 (Or.inl rfl) dd_9 (by decide) ?_
    refine x_aldn qX2_readSign_31 rfl trivial ?_
    refine x_getZe qX2_readSign_32 fX2_19 dd_9 (show cm_u I 9 3 (nI 0) 9 3 = 0 from rfl) ?_
    refine x_if_eq_t (tgt := 48) qX2_readSign_35 (by omega) (by decide) ?_
    refine x_vret qX2_readSign_48 rfl ?_
    exact hno _ (if_neg hc) (RS_no S) FR_9
theorem c_X2_readSign0 {b : Int32} (S : RF h len tx p I) (hno : ∀ I', RF h len tx p I' → FR h I I' → Q none I' L (RR n (some (hA h)) tl) (DD n)) : cm_Ex l g 2 0 0 mX2_readSign 0 [.ref 9, .int b] [] I L (RR n (some (hA h)) tl) (DD n) Q := by
  refine x_aldn qX2_readSign_0 rfl trivial ?_
  refine x_aldn qX2_readSign_1 rfl trivial ?_
  refine x_getZe qX2_readSign_2 fX2_19 dd_9 S.2.2.2.1 ?_
  refine x_if_eq_t (tgt := 27) qX2_readSign_5 (by omega) (by decide) ?_
  refine x_iconst (v := nI 0) qX2_readSign_27 rfl ?_
  refine x_putZ qX2_readSign_28 fX2_19 (Or.inl rfl) dd_9 (by decide) ?_
  refine x_aldn qX2_readSign_31 rfl trivial ?_
  refine x_getZe qX2_readSign_32 fX2_19 dd_9 (show cm_u I 9 3 (nI 0) 9 3 = 0 from rfl) ?_
  refine x_if_eq_t (tgt := 48) qX2_readSign_35 (by omega) (by decide) ?_
  refine x_vret qX2_readSign_48 rfl ?_
  exact hno _ (RF_no S) FR_9
theorem c_X2_readOneOf {i : Nat} (hi : i < 8) (S : RS h len tx tk gl gv toks p I) (hok : ∀ j I', pOne i (pk len tx) p = (p + 1, some j) → RS h len tx tk gl gv toks (p + 1) I' → FR h I I' → Q (some (.int (nI j))) I' L (RR n (some (hA h)) tl) (DD n)) (hno : ∀ I', pOne i (pk len tx) p = (p, none) → RF h len tx p I' → FR h I I' → Q (some (.int 0)) I' L (RR n (some (hA h)) tl) (DD n)) : cm_Ex l g 5 0 0 mX2_readOneOf 0 [.ref 9, .retAddr (10 + i), .float 0, .float 0] [] I L (RR n (some (hA h)) tl) (DD n) Q := by
  have hl := S.1.2.1
  have hp := S.2.1
  have h10 := (ty_len i hi).2
  have loop : ∀ m j, j + m = (tyn i).length → (∀ x, x < j → ¬ (tyn i).getD x 0 = pk len tx p) → cm_Ex l g 5 0 0 mX2_readOneOf 14 [.ref 9, .retAddr (10 + i), .int (bvI (pk len tx p)), .int (nI j)] [] I L (RR n (some (hA h)) tl) (DD n) Q := by
    intro m
    induction m with
    | zero =>
      intro j hj hn
      have e : j = (tyn i).length := by omega
      subst e
      have hf := fnd_none hn
      refine x_ildn qX2_readOneOf_14 rfl ?_
      refine x_aldn qX2_readOneOf_15 rfl trivial ?_
      refine x_cT0 (d' := 2) qX2_readOneOf_16 cX2_115 rfl hi rfl rfl (Nat.le_of_ble_eq_true rfl) (Nat.le_of_ble_eq_true rfl) (by decide) ?_
      refine c_J0_length hi ?_
      refine x_icmp_ge_nt (tgt := 56) qX2_readOneOf_19 (by omega) (by omega) (by omega) (by omega) ?_
      refine x_aldn qX2_readOneOf_56 rfl trivial ?_
      refine x_iconst (v := nI 0) qX2_readOneOf_57 rfl ?_
      refine x_putZ qX2_readOneOf_58 fX2_19 (Or.inl rfl) dd_9 (by decide) ?_
      refine x_iconst (v := nI 0) qX2_readOneOf_61 rfl ?_
      refine x_iret qX2_readOneOf_62 rfl rfl ?_
      exact hno _ (by unfold pOne; rw [hf]) (RS_no S) FR_9
    | succ m ih =>
      intro j hj hn
      have hjl : j < (tyn i).length := by omega
      have hb2 := bvI_eq _ (pkc_le S.1 p) _ (tyn_lt i hi j hjl)
      by_cases hc : (tyn i).getD j 0 = pk len tx p
      · have hf := fnd_at hjl hc hn
        have hpl := pkc_lt hc.symm (by have := tyn_lt i hi j hjl; omega)
        refine x_ildn qX2_readOneOf_14 rfl ?_
        refine x_aldn qX2_readOneOf_15 rfl trivial ?_
        refine x_cT0 (d' := 2) qX2_readOneOf_16 cX2_115 rfl hi rfl rfl (Nat.le_of_ble_eq_true rfl) (Nat.le_of_ble_eq_true rfl) (by decide) ?_
        refine c_J0_length hi ?_
        refine x_icmp_ge_nf (tgt := 56) qX2_readOneOf_19 (by omega) (by omega) (by omega) (by omega) ?_
        refine x_aldn qX2_readOneOf_22 rfl trivial ?_
        refine x_getZe qX2_readOneOf_23 fX2_19 dd_9 S.2.2.2.1 ?_
        refine x_if_eq_f (tgt := 56) qX2_readOneOf_26 (by omega) (by decide) ?_
        refine x_aldn qX2_readOneOf_29 rfl trivial ?_
        refine x_ildn qX2_readOneOf_30 rfl ?_
        refine x_cT1 (d' := 4) qX2_readOneOf_31 cX2_120 rfl hi rfl rfl (Nat.le_of_ble_eq_true rfl) (Nat.le_of_ble_eq_true rfl) (by decide) ?_
        refine c_J0_charAt hi hjl ?_
        refine x_ildn qX2_readOneOf_34 rfl ?_
        refine x_icmp_ne_f (tgt := 50) qX2_readOneOf_35 (by omega) (hb2.mpr hc.symm).symm ?_
        refine x_aldn qX2_readOneOf_38 rfl trivial ?_
        refine x_dup qX2_readOneOf_39 rfl ?_
        refine x_getIe qX2_readOneOf_40 fX2_15 dd_9 S.2.2.1 ?_
        refine x_iconst (v := nI 1) qX2_readOneOf_43 rfl ?_
        refine x_iadd_n qX2_readOneOf_44 ?_
        refine x_putI qX2_readOneOf_45 fX2_15 (Or.inl rfl) dd_9 ?_
        refine x_ildn qX2_readOneOf_48 rfl ?_
        refine x_iret qX2_readOneOf_49 rfl rfl ?_
        exact hok j _ (by unfold pOne; rw [hf]) (RS_mv S hpl) FR_9
      · refine x_ildn qX2_readOneOf_14 rfl ?_
        refine x_aldn qX2_readOneOf_15 rfl trivial ?_
        refine x_cT0 (d' := 2) qX2_readOneOf_16 cX2_115 rfl hi rfl rfl (Nat.le_of_ble_eq_true rfl) (Nat.le_of_ble_eq_true rfl) (by decide) ?_
        refine c_J0_length hi ?_
        refine x_icmp_ge_nf (tgt := 56) qX2_readOneOf_19 (by omega) (by omega) (by omega) (by omega) ?_
        refine x_aldn qX2_readOneOf_22 rfl trivial ?_
        refine x_getZe qX2_readOneOf_23 fX2_19 dd_9 S.2.2.2.1 ?_
        refine x_if_eq_f (tgt := 56) qX2_readOneOf_26 (by omega) (by decide) ?_
        refine x_aldn qX2_readOneOf_29 rfl trivial ?_
        refine x_ildn qX2_readOneOf_30 rfl ?_
        refine x_cT1 (d' := 4) qX2_readOneOf_31 cX2_120 rfl hi rfl rfl (Nat.le_of_ble_eq_true rfl) (Nat.le_of_ble_eq_true rfl) (by decide) ?_
        refine c_J0_charAt hi hjl ?_
        refine x_ildn qX2_readOneOf_34 rfl ?_
        refine x_icmp_ne_t (tgt := 50) qX2_readOneOf_35 (by omega) (fun e => hc (hb2.mp e.symm).symm) ?_
        refine x_iinc3 qX2_readOneOf_50 (by decide) (cm_inc _) rfl ?_
        refine x_goto (tgt := 14) qX2_readOneOf_53 (by omega) ?_
        exact ih (j + 1) (by omega) (fun x hx => by
            by_cases hxj : x = j
            · subst hxj; exact hc
            · exact hn x (by omega))
  refine x_aldn qX2_readOneOf_0 rfl trivial ?_
  refine x_getR qX2_readOneOf_1 fX2_23 dd_9 rfl ?_
  refine x_aldn qX2_readOneOf_4 rfl trivial ?_
  refine x_getIe qX2_readOneOf_5 fX2_15 dd_9 S.2.2.1 ?_
  refine x_cV1 (d' := 1) qX2_readOneOf_8 cX2_44 dd_7 ⟨_, rfl, rfl⟩ rfl rfl (Nat.le_of_ble_eq_true rfl) (Nat.le_of_ble_eq_true rfl) (by decide) ?_
  refine c_bA S.1 (by omega) ?_
  refine x_ist2 qX2_readOneOf_11 (by decide) rfl ?_
  refine x_iconst (v := nI 0) qX2_readOneOf_12 rfl ?_
  refine x_ist3 qX2_readOneOf_13 (by decide) rfl ?_
  exact loop (tyn i).length 0 (by omega) (fun x hx => absurd hx (by omega))
theorem c_X2_readOneOf0 {i : Nat} (hi : i < 8) (S : RF h len tx p I) (hno : ∀ I', RF h len tx p I' → FR h I I' → Q (some (.int 0)) I' L (RR n (some (hA h)) tl) (DD n)) : cm_Ex l g 5 0 0 mX2_readOneOf 0 [.ref 9, .retAddr (10 + i), .float 0, .float 0] [] I L (RR n (some (hA h)) tl) (DD n) Q := by
  have hl := S.1.2.1
  have hp := S.2.1
  have h10 : 0 < (tyn i).length ∧ (tyn i).length ≤ 10 := by
    revert i; decide +kernel
  refine x_aldn qX2_readOneOf_0 rfl trivial ?_
  refine x_getR qX2_readOneOf_1 fX2_23 dd_9 rfl ?_
  refine x_aldn qX2_readOneOf_4 rfl trivial ?_
  refine x_getIe qX2_readOneOf_5 fX2_15 dd_9 S.2.2.1 ?_
  refine x_cV1 (d' := 1) qX2_readOneOf_8 cX2_44 dd_7 ⟨_, rfl, rfl⟩ rfl rfl (Nat.le_of_ble_eq_true rfl) (Nat.le_of_ble_eq_true rfl) (by decide) ?_
  refine c_bA S.1 (by omega) ?_
  refine x_ist2 qX2_readOneOf_11 (by decide) rfl ?_
  refine x_iconst (v := nI 0) qX2_readOneOf_12 rfl ?_
  refine x_ist3 qX2_readOneOf_13 (by decide) rfl ?_
  refine x_ildn qX2_readOneOf_14 rfl ?_
  refine x_aldn qX2_readOneOf_15 rfl trivial ?_
  refine x_cT0 (d' := 2) qX2_readOneOf_16 cX2_115 rfl hi rfl rfl (Nat.le_of_ble_eq_true rfl) (Nat.le_of_ble_eq_true rfl) (by decide) ?_
  refine c_J0_length hi ?_
  refine x_icmp_ge_nf (tgt := 56) qX2_readOneOf_19 (by omega) (by omega) (by omega) (by omega) ?_
  refine x_aldn qX2_readOneOf_22 rfl trivial ?_
  refine x_getZe qX2_readOneOf_23 fX2_19 dd_9 S.2.2.2.1 ?_
  refine x_if_eq_t (tgt := 56) qX2_readOneOf_26 (by omega) (by decide) ?_
  refine x_aldn qX2_readOneOf_56 rfl trivial ?_
  refine x_iconst (v := nI 0) qX2_readOneOf_57 rfl ?_
  refine x_putZ qX2_readOneOf_58 fX2_19 (Or.inl rfl) dd_9 (by decide) ?_
  refine x_iconst (v := nI 0) qX2_readOneOf_61 rfl ?_
  refine x_iret qX2_readOneOf_62 rfl rfl ?_
  exact hno _ (RF_no S) FR_9
theorem c_X2_readWordF {i j : Nat} (hi : i < 8) (hj : j ≤ (tyn i).length) (S : RF h len tx p I) (hno : Q none I L (RR n (some (hA h)) tl) (DD n)) : cm_Ex l g 5 0 0 mX2_readWord 2 [.ref 9, .retAddr (10 + i), .int (nI j)] [] I L (RR n (some (hA h)) tl) (DD n) Q := by
  have h10 := (ty_len i hi).2
  by_cases hj2 : j < (tyn i).length
  · refine x_ildn qX2_readWord_2 rfl ?_
    refine x_aldn qX2_readWord_3 rfl trivial ?_
    refine x_cT0 (d' := 2) qX2_readWord_4 cX2_115 rfl hi rfl rfl (Nat.le_of_ble_eq_true rfl) (Nat.le_of_ble_eq_true rfl) (by decide) ?_
    refine c_J0_length hi ?_
    refine x_icmp_ge_nf (tgt := 32) qX2_readWord_7 (by omega) (by omega) (by omega) (by omega) ?_
    refine x_aldn qX2_readWord_10 rfl trivial ?_
    refine x_getZe qX2_readWord_11 fX2_19 dd_9 S.2.2.2.1 ?_
    refine x_if_eq_t (tgt := 32) qX2_readWord_14 (by omega) (by decide) ?_
    refine x_vret qX2_readWord_32 rfl ?_
    exact hno
  · refine x_ildn qX2_readWord_2 rfl ?_
    refine x_aldn qX2_readWord_3 rfl trivial ?_
    refine x_cT0 (d' := 2) qX2_readWord_4 cX2_115 rfl hi rfl rfl (Nat.le_of_ble_eq_true rfl) (Nat.le_of_ble_eq_true rfl) (by decide) ?_
    refine c_J0_length hi ?_
    refine x_icmp_ge_nt (tgt := 32) qX2_readWord_7 (by omega) (by omega) (by omega) (by omega) ?_
    refine x_vret qX2_readWord_32 rfl ?_
    exact hno
theorem c_X2_readWord0 {i : Nat} (hi : i < 8) (S : RF h len tx p I) (hno : Q none I L (RR n (some (hA h)) tl) (DD n)) : cm_Ex l g 5 0 0 mX2_readWord 0 [.ref 9, .retAddr (10 + i), .float 0] [] I L (RR n (some (hA h)) tl) (DD n) Q := by
  refine x_iconst (v := nI 0) qX2_readWord_0 rfl ?_
  refine x_ist2 qX2_readWord_1 (by decide) rfl ?_
  exact c_X2_readWordF hi (Nat.zero_le _) S hno
theorem c_X2_readWord {i : Nat} (hi : i < 8) (S : RS h len tx tk gl gv toks p I) (hok : ∀ p' I', pWd (pk len tx) (tyn i) p = (p', some ()) → RS h len tx tk gl gv toks p' I' → FR h I I' → Q none I' L (RR n (some (hA h)) tl) (DD n)) (hno : ∀ p' I', pWd (pk len tx) (tyn i) p = (p', none) → RF h len tx p' I' → FR h I I' → Q none I' L (RR n (some (hA h)) tl) (DD n)) : cm_Ex l g 5 0 0 mX2_readWord 0 [.ref 9, .retAddr (10 + i), .float 0] [] I L (RR n (some (hA h)) tl) (DD n) Q := by
  have h10 := (ty_len i hi).2
  have loop : ∀ m j q I1, j + m = (tyn i).length → pWd (pk len tx) (tyn i) p = pWd (pk len tx) ((tyn i).drop j) q → RS h len tx tk gl gv toks q I1 → FR h I I1 → cm_Ex l g 5 0 0 mX2_readWord 2 [.ref 9, .retAddr (10 + i), .int (nI j)] [] I1 L (RR n (some (hA h)) tl) (DD n) Q := by
    intro m
    induction m with
    | zero =>
      intro j q I1 hj he S1 F1
      have e : j = (tyn i).length := by omega
      subst e
      rw [List.drop_length] at he
      refine x_ildn qX2_readWord_2 rfl ?_
      refine x_aldn qX2_readWord_3 rfl trivial ?_
      refine x_cT0 (d' := 2) qX2_readWord_4 cX2_115 rfl hi rfl rfl (Nat.le_of_ble_eq_true rfl) (Nat.le_of_ble_eq_true rfl) (by decide) ?_
      refine c_J0_length hi ?_
      refine x_icmp_ge_nt (tgt := 32) qX2_readWord_7 (by omega) (by omega) (by omega) (by omega) ?_
      refine x_vret qX2_readWord_32 rfl ?_
      exact hok q _ he S1 F1
    | succ m ih =>
      intro j q I1 hj he S1 F1
      have hjl : j < (tyn i).length := by omega
      rw [List.drop_eq_getElem_cons hjl] at he
      have hg : (tyn i)[j] = (tyn i).getD j 0 := by simp [hjl]
      rw [hg] at he
      refine x_ildn qX2_readWord_2 rfl ?_
      refine x_aldn qX2_readWord_3 rfl trivial ?_
      refine x_cT0 (d' := 2) qX2_readWord_4 cX2_115 rfl hi rfl rfl (Nat.le_of_ble_eq_true rfl) (Nat.le_of_ble_eq_true rfl) (by decide) ?_
      refine c_J0_length hi ?_
      refine x_icmp_ge_nf (tgt := 32) qX2_readWord_7 (by omega) (by omega) (by omega) (by omega) ?_
      refine x_aldn qX2_readWord_10 rfl trivial ?_
      refine x_getZe qX2_readWord_11 fX2_19 dd_9 S1.2.2.2.1 ?_
      refine x_if_eq_f (tgt := 32) qX2_readWord_14 (by omega) (by decide) ?_
      refine x_aldn qX2_readWord_17 rfl trivial ?_
      refine x_aldn qX2_readWord_18 rfl trivial ?_
      refine x_ildn qX2_readWord_19 rfl ?_
      refine x_cT1 (d' := 4) qX2_readWord_20 cX2_120 rfl hi rfl rfl (Nat.le_of_ble_eq_true rfl) (Nat.le_of_ble_eq_true rfl) (by decide) ?_
      refine c_J0_charAt hi hjl ?_
      refine x_cV1 (d' := 2) qX2_readWord_23 cX2_40 dd_9 ⟨_, rfl, rfl⟩ rfl rfl (Nat.le_of_ble_eq_true rfl) (Nat.le_of_ble_eq_true rfl) (by decide) ?_
      refine c_X2_readSign (tyn_lt i hi j hjl) S1 (fun I2 h1 S2 F2 => ?_) (fun I2 h1 S2 F2 => ?_)
      · refine x_iinc2 qX2_readWord_26 (by decide) (cm_inc _) rfl ?_
        refine x_goto (tgt := 2) qX2_readWord_29 (by omega) ?_
        refine ih (j + 1) (q + 1) I2 (by omega) ?_ S2 (FR_tr F1 F2)
        rw [he]
        unfold pSg at h1
        show (if pk len tx q = _ then _ else _) = _
        by_cases hx : pk len tx q = (tyn i).getD j 0
        · rw [if_pos hx]
        · rw [if_neg hx] at h1; cases h1
      · have hw : pWd (pk len tx) (tyn i) p = (q, none) := by
          rw [he]
          unfold pSg at h1
          show (if pk len tx q = _ then _ else _) = _
          by_cases hx : pk len tx q = (tyn i).getD j 0
          · rw [if_pos hx] at h1; cases h1
          · rw [if_neg hx]
        refine x_iinc2 qX2_readWord_26 (by decide) (cm_inc _) rfl ?_
        refine x_goto (tgt := 2) qX2_readWord_29 (by omega) ?_
        exact c_X2_readWordF hi (by omega) S2 (hno q _ hw S2 (FR_tr F1 F2))
  refine x_iconst (v := nI 0) qX2_readWord_0 rfl ?_
  refine x_ist2 qX2_readWord_1 (by decide) rfl ?_
  exact loop (tyn i).length 0 p I (by omega) rfl S FR_rfl
end K12
