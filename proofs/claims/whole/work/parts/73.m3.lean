/-! the reference's reader: its leaves -/
def rvI (c : Nat) : Int32 := if c = 256 then -1 else sbI c
theorem rv_eq : ∀ c, c < 257 → ∀ k, k < 128 → (rvI c = nI k ↔ c = k) := by decide +kernel
theorem rv_toInt : ∀ c, c < 257 → (rvI c).toInt = (if c < 128 then (c : Int) else if c = 256 then -1 else (c : Int) - 256) := by decide +kernel
theorem rv_nI {c : Nat} (h : c < 128) : rvI c = nI c := by unfold rvI sbI; rw [if_neg (by omega), if_pos h]
theorem pkb {len : Nat} {tx : Nat → Nat} (h : ∀ p, p < len → tx p < 256) (p : Nat) : pk len tx p < 257 := by
  unfold pk
  by_cases e : p < len
  · rw [if_pos e]; have := h p e; omega
  · rw [if_neg e]; decide
theorem rv_out {len p : Nat} {tx : Nat → Nat} (h : len ≤ p) : rvI (pk len tx p) = -1 := by
  unfold rvI pk
  rw [if_neg (show ¬ p < len by omega), if_pos rfl]
theorem rv_in {len p : Nat} {tx : Nat → Nat} (h : p < len) (ht : tx p < 256) : rvI (pk len tx p) = sbI (tx p) := by
  unfold rvI pk
  rw [if_pos h, if_neg (by omega)]
theorem fnd_7 : ∀ x, x < 257 → fnd (tyn 7) x = if 48 ≤ x ∧ x ≤ 57 then some (x - 48) else none := by decide +kernel
theorem fnd_4 : ∀ x, x < 257 → fnd (tyn 4) x = if 48 ≤ x ∧ x ≤ 51 then some (x - 48) else none := by decide +kernel
theorem fnd_5 : ∀ x, x < 257 → fnd (tyn 5) x = if 97 ≤ x ∧ x ≤ 100 then some (x - 97) else if x = 114 then some 4 else none := by decide +kernel
theorem fnd_6 : ∀ x, x < 257 → fnd (tyn 6) x = if 60 ≤ x ∧ x ≤ 62 then some (x - 60) else none := by decide +kernel
theorem pOne_yes {c : Nat → Nat} {i p j : Nat} (h : fnd (tyn i) (c p) = some j) : pOne i c p = (p + 1, some j) := by unfold pOne; rw [h]
theorem pOne_no {c : Nat → Nat} {i p : Nat} (h : fnd (tyn i) (c p) = none) : pOne i c p = (p, none) := by unfold pOne; rw [h]
def FA (I I' : cm_I) : Prop := (∀ b, b ≠ 73 → I' b = I b) ∧ (∀ k, k ≠ 7 → k ≠ 8 → I' 73 k = I 73 k)
theorem FA_rfl {I : cm_I} : FA I I := ⟨fun _ _ => rfl, fun _ _ _ => rfl⟩
theorem FA_tr {I I' I'' : cm_I} (a : FA I I') (b : FA I' I'') : FA I I'' := ⟨fun c h => (b.1 c h).trans (a.1 c h), fun k h1 h2 => (b.2 k h1 h2).trans (a.2 k h1 h2)⟩
theorem FA_7 {I : cm_I} {v : Int32} : FA I (cm_u I 73 7 v) := ⟨fun b h => cm_u_ne h, fun k h1 h2 => by rw [cm_uu]; show (if k = 7 then _ else _) = _; rw [if_neg h1]⟩
theorem FA_8 {I : cm_I} {v : Int32} : FA I (cm_u I 73 8 v) := ⟨fun b h => cm_u_ne h, fun k h1 h2 => by rw [cm_uu]; show (if k = 8 then _ else _) = _; rw [if_neg h2]⟩
theorem MX_FA {len : Nat} {tx : Nat → Nat} {I I' : cm_I} (M : MX len tx I) (F : FA I I') : MX len tx I' := MX_fr M (F.2 6 (by decide) (by decide)) (F.1 76 (by decide))
def wl (w : Nat) : Nat → List Nat
  | 0 => [32]
  | k + 1 => (96 + w / 2 ^ (5 * k) % 32) :: wl w k
section M3
variable {l : Launch} {g : cm_G} {I : cm_I} {L : cm_L} {hr tl : Option Nat} {Q : cm_Post} {u len p : Nat} {tx : Nat → Nat}
theorem c_X12_next (T : MX len tx I) (hp : I 73 7 = nI p) (hp2 : p < 1000) (hQ : Q (some (.int (rvI (pk len tx p)))) I L (RR u hr tl) (DD u)) : cm_Ex l g 1 0 0 mX12_next 0 [.ref 73] [] I L (RR u hr tl) (DD u) Q := by
  obtain ⟨a, b, c⟩ := T
  refine x_aldn qX12_next_0 rfl trivial ?_
  refine x_getIe qX12_next_1 fX12_32 rfl hp ?_
  refine x_aldn qX12_next_4 rfl trivial ?_
  refine x_getIe qX12_next_5 fX12_29 rfl a ?_
  refine x_icmp_ge_n (tgt := 23) qX12_next_8 (by omega) (by omega) (by omega) (fun h8 => ?_) (fun h8 => ?_)
  · refine x_iconst (v := -1) qX12_next_23 rfl ?_
    refine x_iret qX12_next_24 rfl rfl ?_
    first | (rw [rv_out (by omega)] at hQ; exact hQ) | (rw [rv_in h8 (c p h8).2] at hQ; exact hQ)
  · refine x_aldn qX12_next_11 rfl trivial ?_
    refine x_getR qX12_next_12 fX12_38 rfl rfl ?_
    refine x_aldn qX12_next_15 rfl trivial ?_
    refine x_getIe qX12_next_16 fX12_32 rfl hp ?_
    refine x_ialde qX12_next_19 dd_76 rfl (by omega) (by decide) (c p h8).1 ?_
    refine x_goto (tgt := 24) qX12_next_20 (by omega) ?_
    refine x_iret qX12_next_24 rfl rfl ?_
    first | (rw [rv_out (by omega)] at hQ; exact hQ) | (rw [rv_in h8 (c p h8).2] at hQ; exact hQ)
theorem c_X12_second (T : MX len tx I) (hp : I 73 7 = nI p) (hp2 : p < 1000) (hQ : Q (some (.int (rvI (pk len tx (p + 1))))) I L (RR u hr tl) (DD u)) : cm_Ex l g 1 0 0 mX12_second 0 [.ref 73] [] I L (RR u hr tl) (DD u) Q := by
  obtain ⟨a, b, c⟩ := T
  refine x_aldn qX12_second_0 rfl trivial ?_
  refine x_getIe qX12_second_1 fX12_32 rfl hp ?_
  refine x_iconst (v := nI 1) qX12_second_4 rfl ?_
  refine x_iadd_n qX12_second_5 ?_
  refine x_aldn qX12_second_6 rfl trivial ?_
  refine x_getIe qX12_second_7 fX12_29 rfl a ?_
  refine x_icmp_ge_n (tgt := 27) qX12_second_10 (by omega) (by omega) (by omega) (fun h10 => ?_) (fun h10 => ?_)
  · refine x_iconst (v := -1) qX12_second_27 rfl ?_
    refine x_iret qX12_second_28 rfl rfl ?_
    first | (rw [rv_out (by omega)] at hQ; exact hQ) | (rw [rv_in h10 (c (p + 1) h10).2] at hQ; exact hQ)
  · refine x_aldn qX12_second_13 rfl trivial ?_
    refine x_getR qX12_second_14 fX12_38 rfl rfl ?_
    refine x_aldn qX12_second_17 rfl trivial ?_
    refine x_getIe qX12_second_18 fX12_32 rfl hp ?_
    refine x_iconst (v := nI 1) qX12_second_21 rfl ?_
    refine x_iadd_n qX12_second_22 ?_
    refine x_ialde qX12_second_23 dd_76 rfl (by omega) (by decide) (c (p + 1) h10).1 ?_
    refine x_goto (tgt := 28) qX12_second_24 (by omega) ?_
    refine x_iret qX12_second_28 rfl rfl ?_
    first | (rw [rv_out (by omega)] at hQ; exact hQ) | (rw [rv_in h10 (c (p + 1) h10).2] at hQ; exact hQ)
theorem c_X12_takesSign {k : Nat} (T : MX len tx I) (hp : I 73 7 = nI p) (hp2 : p < 1000) (hk : k < 128) (ht : pk len tx p = k → Q (some (.int 1)) (cm_u I 73 7 (nI (p + 1))) L (RR u hr tl) (DD u)) (hf : ¬ pk len tx p = k → Q (some (.int 0)) I L (RR u hr tl) (DD u)) : cm_Ex l g 2 0 0 mX12_takesSign 0 [.ref 73, .int (nI k)] [] I L (RR u hr tl) (DD u) Q := by
  have hc := pkb (fun p h => (T.2.2 p h).2) p
  refine x_aldn qX12_takesSign_0 rfl trivial ?_
  refine x_cV0 (d' := 1) qX12_takesSign_1 cX12_160 rfl ⟨_, rfl, rfl⟩ rfl rfl (Nat.le_of_ble_eq_true rfl) (Nat.le_of_ble_eq_true rfl) (by decide) ?_
  refine c_X12_next T hp hp2 ?_
  refine x_ildn qX12_takesSign_4 rfl ?_
  refine x_icmp_eq (tgt := 10) qX12_takesSign_5 (by omega) (fun h => ?_) (fun h => ?_)
  · rw [rv_eq _ hc k hk] at h
    refine x_aldn qX12_takesSign_10 rfl trivial ?_
    refine x_dup qX12_takesSign_11 rfl ?_
    refine x_getIe qX12_takesSign_12 fX12_32 rfl hp ?_
    refine x_iconst (v := nI 1) qX12_takesSign_15 rfl ?_
    refine x_iadd_n qX12_takesSign_16 ?_
    refine x_putI qX12_takesSign_17 fX12_32 (Or.inl rfl) rfl ?_
    refine x_iconst (v := nI 1) qX12_takesSign_20 rfl ?_
    refine x_iret qX12_takesSign_21 rfl rfl ?_
    exact ht h
  · rw [rv_eq _ hc k hk] at h
    refine x_iconst (v := nI 0) qX12_takesSign_8 rfl ?_
    refine x_iret qX12_takesSign_9 rfl rfl ?_
    exact hf h
theorem c_X12_isDigit (T : MX len tx I) (hp : I 73 7 = nI p) (hp2 : p < 1000) (ht : 48 ≤ pk len tx p ∧ pk len tx p ≤ 57 → Q (some (.int 1)) I L (RR u hr tl) (DD u)) (hf : ¬ (48 ≤ pk len tx p ∧ pk len tx p ≤ 57) → Q (some (.int 0)) I L (RR u hr tl) (DD u)) : cm_Ex l g 2 0 0 mX12_isDigit 0 [.ref 73] [] I L (RR u hr tl) (DD u) Q := by
  have hc := pkb (fun p h => (T.2.2 p h).2) p
  have e1 : (nI 48).toInt = 48 := by decide
  have e2 : (nI 57).toInt = 57 := by decide
  have e3 := rv_toInt _ hc
  refine x_aldn qX12_isDigit_0 rfl trivial ?_
  refine x_aldn qX12_isDigit_1 rfl trivial ?_
  refine x_cV0 (d' := 1) qX12_isDigit_2 cX12_160 rfl ⟨_, rfl, rfl⟩ rfl rfl (Nat.le_of_ble_eq_true rfl) (Nat.le_of_ble_eq_true rfl) (by decide) ?_
  refine c_X12_next T hp hp2 ?_
  refine x_bipush (v := nI 48) qX12_isDigit_5 rfl ?_
  refine x_bipush (v := nI 57) qX12_isDigit_7 rfl ?_
  refine x_cV3 (d' := 1) qX12_isDigit_9 cX12_149 rfl ⟨_, rfl, rfl⟩ rfl rfl (Nat.le_of_ble_eq_true rfl) (Nat.le_of_ble_eq_true rfl) (by decide) ?_
  refine c_X12_in (fun h => ?_) (fun h => ?_)
  · rw [e1, e2, e3] at h
    refine x_iret qX12_isDigit_12 rfl rfl ?_
    exact ht (by split at h <;> (try split at h) <;> omega)
  · rw [e1, e2, e3] at h
    refine x_iret qX12_isDigit_12 rfl rfl ?_
    exact hf (fun e => h (by rw [if_pos (by omega)]; omega))
theorem c_X12_takesNumber {m : Nat} (T : MX len tx I) (hp : I 73 7 = nI p) (hpl : p ≤ len) (hm : 1 ≤ m) (hm3 : m ≤ 3) (hok : ∀ p' x I', pNum (pk len tx) m p = (p', some x) → I' 73 7 = nI p' → I' 73 8 = nI x → FA I I' → Q (some (.int 1)) I' L (RR u hr tl) (DD u)) (hno : ∀ p', pNum (pk len tx) m p = (p', none) → p' = p → Q (some (.int 0)) I L (RR u hr tl) (DD u)) : cm_Ex l g 3 0 0 mX12_takesNumber 0 [.ref 73, .int (nI m), .float 0] [] I L (RR u hr tl) (DD u) Q := by
  have hl := T.2.1
  have hc := pkb (fun p h => (T.2.2 p h).2) p
  have loop : ∀ j k q x I', k + j = m → q ≤ len → x < 10 ^ k → I' 73 7 = nI q → I' 73 8 = nI x → FA I I' → (∀ p' y I', pDig (pk len tx) j q x = (p', y) → I' 73 7 = nI p' → I' 73 8 = nI y → FA I I' → Q (some (.int 1)) I' L (RR u hr tl) (DD u)) → cm_Ex l g 3 0 0 mX12_takesNumber 16 [.ref 73, .int (nI m), .int (nI k)] [] I' L (RR u hr tl) (DD u) Q := by
    intro j
    induction j with
    | zero =>
      intro k q x I' hk hq hx h7 h8 F hQ'
      refine x_ildn qX12_takesNumber_16 rfl ?_
      refine x_ildn qX12_takesNumber_17 rfl ?_
      refine x_icmp_ge_nt (tgt := 63) qX12_takesNumber_18 (by omega) (by omega) (by omega) (by omega) ?_
      refine x_iconst (v := nI 1) qX12_takesNumber_63 rfl ?_
      refine x_iret qX12_takesNumber_64 rfl rfl ?_
      exact hQ' q x I' rfl h7 h8 F
    | succ j ih =>
      intro k q x I' hk hq hx h7 h8 F hQ'
      have T' := MX_FA T F
      have hx3 : x < 1000 := Nat.lt_of_lt_of_le hx (Nat.pow_le_pow_right (show 10 > 0 by decide) (show k ≤ 3 by omega))
      refine x_ildn qX12_takesNumber_16 rfl ?_
      refine x_ildn qX12_takesNumber_17 rfl ?_
      refine x_icmp_ge_nf (tgt := 63) qX12_takesNumber_18 (by omega) (by omega) (by omega) (by omega) ?_
      refine x_aldn qX12_takesNumber_21 rfl trivial ?_
      refine x_cV0 (d' := 2) qX12_takesNumber_22 cX12_166 rfl ⟨_, rfl, rfl⟩ rfl rfl (Nat.le_of_ble_eq_true rfl) (Nat.le_of_ble_eq_true rfl) (by decide) ?_
      refine c_X12_isDigit T' h7 (by omega) (fun hd => ?_) (fun hd => ?_)
      · have hql := pkc_lt (len := len) (tx := tx) (p := q) (b := pk len tx q) rfl (by omega)
        refine x_if_eq_f (tgt := 63) qX12_takesNumber_25 (by omega) (by decide) ?_
        refine x_aldn qX12_takesNumber_28 rfl trivial ?_
        refine x_bipush (v := nI 10) qX12_takesNumber_29 rfl ?_
        refine x_aldn qX12_takesNumber_31 rfl trivial ?_
        refine x_getIe qX12_takesNumber_32 fX12_35 rfl h8 ?_
        refine x_imul_n qX12_takesNumber_35 ?_
        refine x_aldn qX12_takesNumber_36 rfl trivial ?_
        refine x_cV0 (d' := 1) qX12_takesNumber_37 cX12_160 rfl ⟨_, rfl, rfl⟩ rfl rfl (Nat.le_of_ble_eq_true rfl) (Nat.le_of_ble_eq_true rfl) (by decide) ?_
        refine c_X12_next T' h7 (by omega) ?_
        refine x_topI (rv_nI (by omega)) ?_
        refine x_iadd_n qX12_takesNumber_40 ?_
        refine x_bipush (v := nI 48) qX12_takesNumber_41 rfl ?_
        refine x_isub_n qX12_takesNumber_43 (by omega) ?_
        refine x_putI qX12_takesNumber_44 fX12_35 (Or.inl rfl) rfl ?_
        refine x_aldn qX12_takesNumber_47 rfl trivial ?_
        refine x_dup qX12_takesNumber_48 rfl ?_
        refine x_getIe qX12_takesNumber_49 fX12_32 rfl ((show _ = nI q from by rw [cm_uu]; exact h7)) ?_
        refine x_iconst (v := nI 1) qX12_takesNumber_52 rfl ?_
        refine x_iadd_n qX12_takesNumber_53 ?_
        refine x_putI qX12_takesNumber_54 fX12_32 (Or.inl rfl) rfl ?_
        refine x_iinc2 qX12_takesNumber_57 (by decide) (cm_inc _) rfl ?_
        refine x_goto (tgt := 16) qX12_takesNumber_60 (by omega) ?_
        refine ih (k + 1) (q + 1) (x * 10 + pk len tx q - 48) _ (by omega) (by omega) (by rw [Nat.pow_succ]; omega) (by rw [cm_uu]; rfl) (by rw [cm_uu, cm_uu]; show nI _ = nI _; congr 1; omega) (FA_tr F (FA_tr FA_8 FA_7)) (fun p' y I2 e => ?_)
        refine hQ' p' y I2 ?_
        show (if 48 ≤ pk len tx q ∧ pk len tx q ≤ 57 then _ else _) = _
        rw [if_pos hd]
        exact e
      · refine x_if_eq_t (tgt := 63) qX12_takesNumber_25 (by omega) (by decide) ?_
        refine x_iconst (v := nI 1) qX12_takesNumber_63 rfl ?_
        refine x_iret qX12_takesNumber_64 rfl rfl ?_
        refine hQ' q x I' ?_ h7 h8 F
        show (if 48 ≤ pk len tx q ∧ pk len tx q ≤ 57 then _ else _) = _
        rw [if_neg hd]
  refine x_aldn qX12_takesNumber_0 rfl trivial ?_
  refine x_cV0 (d' := 2) qX12_takesNumber_1 cX12_166 rfl ⟨_, rfl, rfl⟩ rfl rfl (Nat.le_of_ble_eq_true rfl) (Nat.le_of_ble_eq_true rfl) (by decide) ?_
  refine c_X12_isDigit T hp (by omega) (fun hd => ?_) (fun hd => ?_)
  · have eN : pNum (pk len tx) m p = ((pDig (pk len tx) m p 0).1, some (pDig (pk len tx) m p 0).2) := by
      unfold pNum
      rw [pOne_yes (by rw [fnd_7 _ hc, if_pos hd])]
      obtain ⟨m', rfl⟩ : ∃ m', m = m' + 1 := ⟨m - 1, by omega⟩
      have e2 : pDig (pk len tx) (m' + 1) p 0 = pDig (pk len tx) m' (p + 1) (pk len tx p - 48) := by
        show (if 48 ≤ pk len tx p ∧ pk len tx p ≤ 57 then _ else _) = _
        rw [if_pos hd, Nat.zero_mul, Nat.zero_add]
      rw [e2]
      rfl
    refine x_if_ne_t (tgt := 9) qX12_takesNumber_4 (by omega) (by decide) ?_
    refine x_aldn qX12_takesNumber_9 rfl trivial ?_
    refine x_iconst (v := nI 0) qX12_takesNumber_10 rfl ?_
    refine x_putI qX12_takesNumber_11 fX12_35 (Or.inl rfl) rfl ?_
    refine x_iconst (v := nI 0) qX12_takesNumber_14 rfl ?_
    refine x_ist2 qX12_takesNumber_15 (by decide) rfl ?_
    refine loop m 0 p 0 _ (by omega) hpl (by decide) (by rw [cm_uu]; exact hp) (by rw [cm_uu]; rfl) FA_8 (fun p' y I' e h7 h8 F => ?_)
    exact hok p' y I' (by rw [eN, e]) h7 h8 F
  · have eN : pNum (pk len tx) m p = (p, none) := by
      unfold pNum
      rw [pOne_no (by rw [fnd_7 _ hc, if_neg hd])]
      rfl
    refine x_if_ne_f (tgt := 9) qX12_takesNumber_4 (by omega) (by decide) ?_
    refine x_iconst (v := nI 0) qX12_takesNumber_7 rfl ?_
    refine x_iret qX12_takesNumber_8 rfl rfl ?_
    exact hno p eN rfl
theorem c_X12_takesWord {w k : Nat} (T : MX len tx I) (hp : I 73 7 = nI p) (hpl : p ≤ len) (hw : w < 2147483648) (hk : k ≤ 5) (hok : ∀ p' I', pWd (pk len tx) (wl w k) p = (p', some ()) → p' ≤ len → I' 73 7 = nI p' → FA I I' → Q (some (.int 1)) I' L (RR u hr tl) (DD u)) (hno : ∀ p' I', pWd (pk len tx) (wl w k) p = (p', none) → p' ≤ len → I' 73 7 = nI p' → FA I I' → Q (some (.int 0)) I' L (RR u hr tl) (DD u)) : cm_Ex l g 3 0 0 mX12_takesWord 0 [.ref 73, .int (nI w), .int (nI k), .float 0] [] I L (RR u hr tl) (DD u) Q := by
  have hl := T.2.1
  have loop : ∀ j p I', j ≤ k → p ≤ len → I' 73 7 = nI p → FA I I' → (∀ p' I', pWd (pk len tx) (wl w j) p = (p', some ()) → p' ≤ len → I' 73 7 = nI p' → FA I I' → Q (some (.int 1)) I' L (RR u hr tl) (DD u)) → (∀ p' I', pWd (pk len tx) (wl w j) p = (p', none) → p' ≤ len → I' 73 7 = nI p' → FA I I' → Q (some (.int 0)) I' L (RR u hr tl) (DD u)) → cm_Ex l g 3 0 0 mX12_takesWord 4 [.ref 73, .int (nI w), .int (nI k), .int (nI j + Int32.ofInt (-1))] [] I' L (RR u hr tl) (DD u) Q := by
    intro j
    induction j with
    | zero =>
      intro p I' hj hp h7 F hok hno
      refine x_ildn qX12_takesWord_4 rfl ?_
      refine x_if_lt_t (tgt := 34) qX12_takesWord_5 (by omega) (by decide) ?_
      refine x_aldn qX12_takesWord_34 rfl trivial ?_
      refine x_bipush (v := nI 32) qX12_takesWord_35 rfl ?_
      refine x_cV1 (d' := 2) qX12_takesWord_37 cX12_163 rfl ⟨_, rfl, rfl⟩ rfl rfl (Nat.le_of_ble_eq_true rfl) (Nat.le_of_ble_eq_true rfl) (by decide) ?_
      refine c_X12_takesSign (MX_FA T F) h7 (by omega) (by decide) (fun h => ?_) (fun h => ?_)
      · refine x_iret qX12_takesWord_40 rfl rfl ?_
        have := pkc_lt h (by decide)
        refine hok (p + 1) _ ?_ (by omega) (by rw [cm_uu]; rfl) (FA_tr F FA_7)
        show (if pk len tx p = 32 then _ else _) = _
        rw [if_pos h]; rfl
      · refine x_iret qX12_takesWord_40 rfl rfl ?_
        refine hno p _ ?_ hp h7 F
        show (if pk len tx p = 32 then _ else _) = _
        rw [if_neg h]
    | succ j ih =>
      intro p I' hj hp h7 F hok hno
      rw [cm_dec]
      have hlt : 96 + w / 2 ^ (5 * j) % 32 < 128 := by have := Nat.mod_lt (w / 2 ^ (5 * j)) (show 32 > 0 by decide); omega
      refine x_ildn qX12_takesWord_4 rfl ?_
      refine x_if_lt_nf (tgt := 34) qX12_takesWord_5 (by omega) (by omega) ?_
      refine x_aldn qX12_takesWord_8 rfl trivial ?_
      refine x_bipush (v := nI 96) qX12_takesWord_9 rfl ?_
      refine x_ildn qX12_takesWord_11 rfl ?_
      refine x_iconst (v := nI 5) qX12_takesWord_12 rfl ?_
      refine x_ildn qX12_takesWord_13 rfl ?_
      refine x_imul_n qX12_takesWord_14 ?_
      refine x_ishr qX12_takesWord_15 ?_
      rw [ib_shr (by omega) hw]
      refine x_bipush (v := nI 31) qX12_takesWord_16 rfl ?_
      refine x_iand qX12_takesWord_18 ?_
      rw [show nI (w / 2 ^ (5 * j)) &&& nI 31 = nI (w / 2 ^ (5 * j) % 32) from pk_andN (Nat.lt_of_le_of_lt (Nat.div_le_self _ _) (by omega)) 5 (by decide)]
      refine x_iadd_n qX12_takesWord_19 ?_
      refine x_cV1 (d' := 2) qX12_takesWord_20 cX12_163 rfl ⟨_, rfl, rfl⟩ rfl rfl (Nat.le_of_ble_eq_true rfl) (Nat.le_of_ble_eq_true rfl) (by decide) ?_
      refine c_X12_takesSign (MX_FA T F) h7 (by omega) hlt (fun h => ?_) (fun h => ?_)
      · have hpl2 := pkc_lt h (by omega)
        refine x_if_ne_t (tgt := 28) qX12_takesWord_23 (by omega) (by decide) ?_
        refine x_iinc3 qX12_takesWord_28 (by decide) rfl rfl ?_
        refine x_goto (tgt := 4) qX12_takesWord_31 (by omega) ?_
        have ew : ∀ x, pWd (pk len tx) (wl w j) (p + 1) = x → pWd (pk len tx) (wl w (j + 1)) p = x := fun x e => by
          show (if pk len tx p = _ then _ else _) = _
          rw [if_pos h]; exact e
        exact ih (p + 1) _ (by omega) (by omega) (by rw [cm_uu]; rfl) (FA_tr F FA_7) (fun p' I2 e => hok p' I2 (ew _ e)) (fun p' I2 e => hno p' I2 (ew _ e))
      · refine x_if_ne_f (tgt := 28) qX12_takesWord_23 (by omega) (by decide) ?_
        refine x_iconst (v := nI 0) qX12_takesWord_26 rfl ?_
        refine x_iret qX12_takesWord_27 rfl rfl ?_
        refine hno p _ ?_ hp h7 F
        show (if pk len tx p = _ then _ else _) = _
        rw [if_neg h]
  refine x_ildn qX12_takesWord_0 rfl ?_
  refine x_iconst (v := nI 1) qX12_takesWord_1 rfl ?_
  refine x_isub qX12_takesWord_2 ?_
  rw [sub1_dec]
  refine x_ist3 qX12_takesWord_3 (by decide) rfl ?_
  exact loop k p I (Nat.le_refl _) hpl hp FA_rfl hok hno
theorem c_X12_takesFigure (T : MX len tx I) (hp : I 73 7 = nI p) (hpl : p ≤ len) (hok : ∀ p' x I', (pbd (pOne 4 (pk len tx) p) fun p1 a => pbd (pSg 32 (pk len tx) p1) fun p2 _ => (p2, some a)) = (p', some x) → p' ≤ len → x < 4 → I' 73 7 = nI p' → I' 73 8 = nI x → FA I I' → Q (some (.int 1)) I' L (RR u hr tl) (DD u)) (hno : ∀ p' I', (pbd (pOne 4 (pk len tx) p) fun p1 a => pbd (pSg 32 (pk len tx) p1) fun p2 _ => (p2, some a)) = (p', none) → p' ≤ len → I' 73 7 = nI p' → FA I I' → Q (some (.int 0)) I' L (RR u hr tl) (DD u)) : cm_Ex l g 3 0 0 mX12_takesFigure 0 [.ref 73] [] I L (RR u hr tl) (DD u) Q := by
  have hl := T.2.1
  have hc := pkb (fun p h => (T.2.2 p h).2) p
  have e1 : (nI 48).toInt = 48 := by decide
  have e2 : (nI 51).toInt = 51 := by decide
  have e3 := rv_toInt _ hc
  refine x_aldn qX12_takesFigure_0 rfl trivial ?_
  refine x_aldn qX12_takesFigure_1 rfl trivial ?_
  refine x_cV0 (d' := 1) qX12_takesFigure_2 cX12_160 rfl ⟨_, rfl, rfl⟩ rfl rfl (Nat.le_of_ble_eq_true rfl) (Nat.le_of_ble_eq_true rfl) (by decide) ?_
  refine c_X12_next T hp (by omega) ?_
  refine x_bipush (v := nI 48) qX12_takesFigure_5 rfl ?_
  refine x_bipush (v := nI 51) qX12_takesFigure_7 rfl ?_
  refine x_cV3 (d' := 1) qX12_takesFigure_9 cX12_149 rfl ⟨_, rfl, rfl⟩ rfl rfl (Nat.le_of_ble_eq_true rfl) (Nat.le_of_ble_eq_true rfl) (by decide) ?_
  refine c_X12_in (fun h => ?_) (fun h => ?_)
  · rw [e1, e2, e3] at h
    have hd : 48 ≤ pk len tx p ∧ pk len tx p ≤ 51 := by split at h <;> (try split at h) <;> omega
    have hpl2 := pkc_lt (len := len) (tx := tx) (p := p) (b := pk len tx p) rfl (by omega)
    have eo : pOne 4 (pk len tx) p = (p + 1, some (pk len tx p - 48)) := pOne_yes (by rw [fnd_4 _ hc, if_pos hd])
    rw [eo] at hok hno
    refine x_if_ne_t (tgt := 17) qX12_takesFigure_12 (by omega) (by decide) ?_
    refine x_aldn qX12_takesFigure_17 rfl trivial ?_
    refine x_aldn qX12_takesFigure_18 rfl trivial ?_
    refine x_cV0 (d' := 1) qX12_takesFigure_19 cX12_160 rfl ⟨_, rfl, rfl⟩ rfl rfl (Nat.le_of_ble_eq_true rfl) (Nat.le_of_ble_eq_true rfl) (by decide) ?_
    refine c_X12_next T hp (by omega) ?_
    refine x_topI (rv_nI (by omega)) ?_
    refine x_bipush (v := nI 48) qX12_takesFigure_22 rfl ?_
    refine x_isub_n qX12_takesFigure_24 (by omega) ?_
    refine x_putI qX12_takesFigure_25 fX12_35 (Or.inl rfl) rfl ?_
    refine x_aldn qX12_takesFigure_28 rfl trivial ?_
    refine x_dup qX12_takesFigure_29 rfl ?_
    refine x_getIe qX12_takesFigure_30 fX12_32 rfl ((show _ = nI p from by rw [cm_uu]; exact hp)) ?_
    refine x_iconst (v := nI 1) qX12_takesFigure_33 rfl ?_
    refine x_iadd_n qX12_takesFigure_34 ?_
    refine x_putI qX12_takesFigure_35 fX12_32 (Or.inl rfl) rfl ?_
    have F2 : FA I (cm_u (cm_u I 73 8 (nI (pk len tx p - 48))) 73 7 (nI (p + 1))) := FA_tr FA_8 FA_7
    refine x_aldn qX12_takesFigure_38 rfl trivial ?_
    refine x_bipush (v := nI 32) qX12_takesFigure_39 rfl ?_
    refine x_cV1 (d' := 2) qX12_takesFigure_41 cX12_163 rfl ⟨_, rfl, rfl⟩ rfl rfl (Nat.le_of_ble_eq_true rfl) (Nat.le_of_ble_eq_true rfl) (by decide) ?_
    refine c_X12_takesSign (MX_FA T F2) (by rw [cm_uu]; rfl) (by omega) (by decide) (fun h2 => ?_) (fun h2 => ?_)
    · refine x_iret qX12_takesFigure_44 rfl rfl ?_
      have := pkc_lt h2 (by decide)
      have es : pSg 32 (pk len tx) (p + 1) = (p + 1 + 1, some ()) := by unfold pSg; rw [if_pos h2]
      refine hok (p + 1 + 1) (pk len tx p - 48) _ ?_ (by omega) (by omega) (by rw [cm_uu]; rfl) (by rw [cm_uu, cm_uu, cm_uu]; rfl) (FA_tr F2 FA_7)
      simp only [pbd, es]
    · refine x_iret qX12_takesFigure_44 rfl rfl ?_
      have es : pSg 32 (pk len tx) (p + 1) = (p + 1, none) := by unfold pSg; rw [if_neg h2]
      refine hno (p + 1) _ ?_ (by omega) (by rw [cm_uu]; rfl) F2
      simp only [pbd, es]
  · rw [e1, e2, e3] at h
    have hd : ¬ (48 ≤ pk len tx p ∧ pk len tx p ≤ 51) := fun e => h (by rw [if_pos (by omega)]; omega)
    have eo : pOne 4 (pk len tx) p = (p, none) := pOne_no (by rw [fnd_4 _ hc, if_neg hd])
    rw [eo] at hno
    refine x_if_ne_f (tgt := 17) qX12_takesFigure_12 (by omega) (by decide) ?_
    refine x_iconst (v := nI 0) qX12_takesFigure_15 rfl ?_
    refine x_iret qX12_takesFigure_16 rfl rfl ?_
    exact hno p I rfl hpl hp FA_rfl
end M3
