/-! leaves: Thing, Trace, Text, Meter, Tape -/
theorem t0i : (0 : Int32).toInt = 0 := rfl
theorem tm1 : (-1 : Int32).toInt = -1 := rfl
section K2
variable {l : Launch} {g : cm_G} {I : cm_I} {L : cm_L} {t : Nat} {hr tl : Option Nat} {Q : cm_Post}
theorem c_X9_hasState {R : cm_R} {ds : cm_Ds} {a : Nat} {k : Int32} (hd : ds[a]? = some (.inr 7)) (ht : 0 ≤ k.toInt ∧ k.toInt < (I a 2).toInt → Q (some (.int 1)) I L R ds) (hf : ¬ (0 ≤ k.toInt ∧ k.toInt < (I a 2).toInt) → Q (some (.int 0)) I L R ds) : cm_Ex l g 1 0 0 mX9_hasState 0 [.ref a, .int k] [] I L R ds Q := by
  refine x_ildn qX9_hasState_0 rfl ?_
  refine x_if_lt (tgt := 16) qX9_hasState_1 (by omega) (fun h1 => ?_) (fun h1 => ?_)
  · refine x_iconst (v := 0) qX9_hasState_16 rfl ?_
    refine x_iret qX9_hasState_17 rfl rfl ?_
    simp only [Int32.le_iff_toInt_le, Int32.lt_iff_toInt_lt, t0i] at *
    first | exact ht (by omega) | exact hf (by omega)
  · refine x_ildn qX9_hasState_4 rfl ?_
    refine x_aldn qX9_hasState_5 rfl trivial ?_
    refine x_getI qX9_hasState_6 fX9_16 hd ?_
    refine x_icmp_ge (tgt := 16) qX9_hasState_9 (by omega) (fun h9 => ?_) (fun h9 => ?_)
    · refine x_iconst (v := 0) qX9_hasState_16 rfl ?_
      refine x_iret qX9_hasState_17 rfl rfl ?_
      simp only [Int32.le_iff_toInt_le, Int32.lt_iff_toInt_lt, t0i] at *
      first | exact ht (by omega) | exact hf (by omega)
    · refine x_iconst (v := 1) qX9_hasState_12 rfl ?_
      refine x_goto (tgt := 17) qX9_hasState_13 (by omega) ?_
      refine x_iret qX9_hasState_17 rfl rfl ?_
      simp only [Int32.le_iff_toInt_le, Int32.lt_iff_toInt_lt, t0i] at *
      first | exact ht (by omega) | exact hf (by omega)
theorem c_X10_add {n : Nat} {v : Int32} (h0 : I 34 1 = nI n) (hn : n < 1000) (hQ : Q none (cm_u (if n < 20 then cm_u I 35 n v else I) 34 1 (nI (n + 1))) L (RR t hr tl) (DD t)) : cm_Ex l g 1 0 0 mX10_add 0 [.ref 34, .int v] [] I L (RR t hr tl) (DD t) Q := by
  by_cases hc : n < 20
  · rw [if_pos hc] at hQ
    refine x_aldn qX10_add_0 rfl trivial ?_
    refine x_getIe qX10_add_1 fX10_15 rfl h0 ?_
    refine x_if_lt_nf (tgt := 29) qX10_add_4 (by omega) (by omega) ?_
    refine x_aldn qX10_add_7 rfl trivial ?_
    refine x_getIe qX10_add_8 fX10_15 rfl h0 ?_
    refine x_aldn qX10_add_11 rfl trivial ?_
    refine x_getR qX10_add_12 fX10_9 rfl rfl ?_
    refine x_alen qX10_add_15 rfl (by decide) rfl ?_
    refine x_icmp_ge_nf (tgt := 29) qX10_add_16 (by omega) (by omega) (by omega) (by omega) ?_
    refine x_aldn qX10_add_19 rfl trivial ?_
    refine x_getR qX10_add_20 fX10_9 rfl rfl ?_
    refine x_aldn qX10_add_23 rfl trivial ?_
    refine x_getIe qX10_add_24 fX10_15 rfl h0 ?_
    refine x_ildn qX10_add_27 rfl ?_
    refine x_iast qX10_add_28 rfl rfl (by omega) (by decide) ?_
    refine x_aldn qX10_add_29 rfl trivial ?_
    refine x_dup qX10_add_30 rfl ?_
    refine x_getIe qX10_add_31 fX10_15 rfl h0 ?_
    refine x_iconst (v := nI 1) qX10_add_34 rfl ?_
    refine x_iadd_n qX10_add_35 ?_
    refine x_putI qX10_add_36 fX10_15 (Or.inl rfl) rfl ?_
    refine x_vret qX10_add_39 rfl ?_
    exact hQ
  · rw [if_neg hc] at hQ
    refine x_aldn qX10_add_0 rfl trivial ?_
    refine x_getIe qX10_add_1 fX10_15 rfl h0 ?_
    refine x_if_lt_nf (tgt := 29) qX10_add_4 (by omega) (by omega) ?_
    refine x_aldn qX10_add_7 rfl trivial ?_
    refine x_getIe qX10_add_8 fX10_15 rfl h0 ?_
    refine x_aldn qX10_add_11 rfl trivial ?_
    refine x_getR qX10_add_12 fX10_9 rfl rfl ?_
    refine x_alen qX10_add_15 rfl (by decide) rfl ?_
    refine x_icmp_ge_nt (tgt := 29) qX10_add_16 (by omega) (by omega) (by omega) (by omega) ?_
    refine x_aldn qX10_add_29 rfl trivial ?_
    refine x_dup qX10_add_30 rfl ?_
    refine x_getIe qX10_add_31 fX10_15 rfl h0 ?_
    refine x_iconst (v := nI 1) qX10_add_34 rfl ?_
    refine x_iadd_n qX10_add_35 ?_
    refine x_putI qX10_add_36 fX10_15 (Or.inl rfl) rfl ?_
    refine x_vret qX10_add_39 rfl ?_
    exact hQ
theorem c_X10_has {n : Nat} {i : Int32} (h0 : I 34 1 = nI n) (hn : n < 1000) (ht : 0 ≤ i.toInt ∧ i.toInt < n ∧ i.toInt < 20 → Q (some (.int 1)) I L (RR t hr tl) (DD t)) (hf : ¬ (0 ≤ i.toInt ∧ i.toInt < n ∧ i.toInt < 20) → Q (some (.int 0)) I L (RR t hr tl) (DD t)) : cm_Ex l g 1 0 0 mX10_has 0 [.ref 34, .int i] [] I L (RR t hr tl) (DD t) Q := by
  have e1 := nI_toInt (n := n) (by omega)
  have e2 : (nI 20).toInt = 20 := by decide
  refine x_ildn qX10_has_0 rfl ?_
  refine x_if_lt (tgt := 25) qX10_has_1 (by omega) (fun h1 => ?_) (fun h1 => ?_)
  · refine x_iconst (v := 0) qX10_has_25 rfl ?_
    refine x_iret qX10_has_26 rfl rfl ?_
    simp only [Int32.le_iff_toInt_le, Int32.lt_iff_toInt_lt, t0i, e1, e2] at *
    first | exact ht (by omega) | exact hf (by omega)
  · refine x_ildn qX10_has_4 rfl ?_
    refine x_aldn qX10_has_5 rfl trivial ?_
    refine x_getIe qX10_has_6 fX10_15 rfl h0 ?_
    refine x_icmp_ge (tgt := 25) qX10_has_9 (by omega) (fun h9 => ?_) (fun h9 => ?_)
    · refine x_iconst (v := 0) qX10_has_25 rfl ?_
      refine x_iret qX10_has_26 rfl rfl ?_
      simp only [Int32.le_iff_toInt_le, Int32.lt_iff_toInt_lt, t0i, e1, e2] at *
      first | exact ht (by omega) | exact hf (by omega)
    · refine x_ildn qX10_has_12 rfl ?_
      refine x_aldn qX10_has_13 rfl trivial ?_
      refine x_getR qX10_has_14 fX10_9 rfl rfl ?_
      refine x_alen qX10_has_17 rfl (by decide) rfl ?_
      refine x_icmp_ge (tgt := 25) qX10_has_18 (by omega) (fun h18 => ?_) (fun h18 => ?_)
      · refine x_iconst (v := 0) qX10_has_25 rfl ?_
        refine x_iret qX10_has_26 rfl rfl ?_
        simp only [Int32.le_iff_toInt_le, Int32.lt_iff_toInt_lt, t0i, e1, e2] at *
        first | exact ht (by omega) | exact hf (by omega)
      · refine x_iconst (v := 1) qX10_has_21 rfl ?_
        refine x_goto (tgt := 26) qX10_has_22 (by omega) ?_
        refine x_iret qX10_has_26 rfl rfl ?_
        simp only [Int32.le_iff_toInt_le, Int32.lt_iff_toInt_lt, t0i, e1, e2] at *
        first | exact ht (by omega) | exact hf (by omega)
theorem c_X10_bodyAt {n k : Nat} (h0 : I 34 1 = nI n) (hn : n < 1000) (hk : k < n) (hk2 : k < 20) (hQ : Q (some (.int (I 35 k))) I L (RR t hr tl) (DD t)) : cm_Ex l g 2 0 0 mX10_bodyAt 0 [.ref 34, .int (nI k)] [] I L (RR t hr tl) (DD t) Q := by
  have e1 := nI_toInt (n := k) (by omega)
  refine x_aldn qX10_bodyAt_0 rfl trivial ?_
  refine x_ildn qX10_bodyAt_1 rfl ?_
  refine x_cV1 (d' := 1) qX10_bodyAt_2 cX10_19 rfl ⟨_, rfl, rfl⟩ rfl rfl (Nat.le_of_ble_eq_true rfl) (Nat.le_of_ble_eq_true rfl) (by decide) ?_
  refine c_X10_has h0 hn (fun h2 => ?_) (fun h2 => absurd (by omega) h2)
  refine x_if_eq_f (tgt := 17) qX10_bodyAt_5 (by omega) (by decide) ?_
  refine x_aldn qX10_bodyAt_8 rfl trivial ?_
  refine x_getR qX10_bodyAt_9 fX10_9 rfl rfl ?_
  refine x_ildn qX10_bodyAt_12 rfl ?_
  refine x_iald qX10_bodyAt_13 rfl rfl (by omega) (by decide) ?_
  refine x_goto (tgt := 18) qX10_bodyAt_14 (by omega) ?_
  refine x_iret qX10_bodyAt_18 rfl rfl ?_
  exact hQ
theorem c_X8_add {n : Nat} {v : Int32} (h0 : I 7 1 = nI n) (hn : n < 100) (hQ : Q none (cm_u (cm_u I 8 n v) 7 1 (nI (n + 1))) L (RR t hr tl) (DD t)) : cm_Ex l g 1 0 0 mX8_add 0 [.ref 7, .int v] [] I L (RR t hr tl) (DD t) Q := by
  refine x_aldn qX8_add_0 rfl trivial ?_
  refine x_getIe qX8_add_1 fX8_15 rfl h0 ?_
  refine x_if_lt_nf (tgt := 39) qX8_add_4 (by omega) (by omega) ?_
  refine x_aldn qX8_add_7 rfl trivial ?_
  refine x_getIe qX8_add_8 fX8_15 rfl h0 ?_
  refine x_aldn qX8_add_11 rfl trivial ?_
  refine x_getR qX8_add_12 fX8_9 rfl rfl ?_
  refine x_alen qX8_add_15 rfl (by decide) rfl ?_
  refine x_icmp_ge_nf (tgt := 39) qX8_add_16 (by omega) (by omega) (by omega) (by omega) ?_
  refine x_aldn qX8_add_19 rfl trivial ?_
  refine x_getR qX8_add_20 fX8_9 rfl rfl ?_
  refine x_aldn qX8_add_23 rfl trivial ?_
  refine x_getIe qX8_add_24 fX8_15 rfl h0 ?_
  refine x_ildn qX8_add_27 rfl ?_
  refine x_iast qX8_add_28 rfl rfl (by omega) (by decide) ?_
  refine x_aldn qX8_add_29 rfl trivial ?_
  refine x_dup qX8_add_30 rfl ?_
  refine x_getIe qX8_add_31 fX8_15 rfl h0 ?_
  refine x_iconst (v := nI 1) qX8_add_34 rfl ?_
  refine x_iadd_n qX8_add_35 ?_
  refine x_putI qX8_add_36 fX8_15 (Or.inl rfl) rfl ?_
  refine x_vret qX8_add_39 rfl ?_
  exact hQ
theorem c_X8_byteAt {n p : Nat} (h0 : I 7 1 = nI n) (hn : n ≤ 100) (hp : p < 1000) (hQ : Q (some (.int (if p < n then I 8 p else -1))) I L (RR t hr tl) (DD t)) : cm_Ex l g 1 0 0 mX8_byteAt 0 [.ref 7, .int (nI p)] [] I L (RR t hr tl) (DD t) Q := by
  by_cases hc : p < n
  · rw [if_pos hc] at hQ
    refine x_ildn qX8_byteAt_0 rfl ?_
    refine x_if_lt_nf (tgt := 30) qX8_byteAt_1 (by omega) (by omega) ?_
    refine x_ildn qX8_byteAt_4 rfl ?_
    refine x_aldn qX8_byteAt_5 rfl trivial ?_
    refine x_getIe qX8_byteAt_6 fX8_15 rfl h0 ?_
    refine x_icmp_ge_nf (tgt := 30) qX8_byteAt_9 (by omega) (by omega) (by omega) (by omega) ?_
    refine x_ildn qX8_byteAt_12 rfl ?_
    refine x_aldn qX8_byteAt_13 rfl trivial ?_
    refine x_getR qX8_byteAt_14 fX8_9 rfl rfl ?_
    refine x_alen qX8_byteAt_17 rfl (by decide) rfl ?_
    refine x_icmp_ge_nf (tgt := 30) qX8_byteAt_18 (by omega) (by omega) (by omega) (by omega) ?_
    refine x_aldn qX8_byteAt_21 rfl trivial ?_
    refine x_getR qX8_byteAt_22 fX8_9 rfl rfl ?_
    refine x_ildn qX8_byteAt_25 rfl ?_
    refine x_iald qX8_byteAt_26 rfl rfl (by omega) (by decide) ?_
    refine x_goto (tgt := 31) qX8_byteAt_27 (by omega) ?_
    refine x_iret qX8_byteAt_31 rfl rfl ?_
    exact hQ
  · rw [if_neg hc] at hQ
    refine x_ildn qX8_byteAt_0 rfl ?_
    refine x_if_lt_nf (tgt := 30) qX8_byteAt_1 (by omega) (by omega) ?_
    refine x_ildn qX8_byteAt_4 rfl ?_
    refine x_aldn qX8_byteAt_5 rfl trivial ?_
    refine x_getIe qX8_byteAt_6 fX8_15 rfl h0 ?_
    refine x_icmp_ge_nt (tgt := 30) qX8_byteAt_9 (by omega) (by omega) (by omega) (by omega) ?_
    refine x_iconst (v := -1) qX8_byteAt_30 rfl ?_
    refine x_iret qX8_byteAt_31 rfl rfl ?_
    exact hQ
theorem c_X5_has {k n : Nat} {i : Int32} (hM : isM k) (h0 : I k 1 = nI n) (hn : n ≤ 12) (ht : 0 ≤ i.toInt ∧ i.toInt < n → Q (some (.int 1)) I L (RR t hr tl) (DD t)) (hf : ¬ (0 ≤ i.toInt ∧ i.toInt < n) → Q (some (.int 0)) I L (RR t hr tl) (DD t)) : cm_Ex l g 1 0 0 mX5_has 0 [.ref k, .int i] [] I L (RR t hr tl) (DD t) Q := by
  have e1 := nI_toInt (n := n) (by omega)
  refine x_ildn qX5_has_0 rfl ?_
  refine x_if_lt (tgt := 16) qX5_has_1 (by omega) (fun h1 => ?_) (fun h1 => ?_)
  · refine x_iconst (v := 0) qX5_has_16 rfl ?_
    refine x_iret qX5_has_17 rfl rfl ?_
    simp only [Int32.le_iff_toInt_le, Int32.lt_iff_toInt_lt, t0i, e1] at *
    first | exact ht (by omega) | exact hf (by omega)
  · refine x_ildn qX5_has_4 rfl ?_
    refine x_aldn qX5_has_5 rfl trivial ?_
    refine x_getIe qX5_has_6 fX5_15 (dd_M hM).1 h0 ?_
    refine x_icmp_ge (tgt := 16) qX5_has_9 (by omega) (fun h9 => ?_) (fun h9 => ?_)
    · refine x_iconst (v := 0) qX5_has_16 rfl ?_
      refine x_iret qX5_has_17 rfl rfl ?_
      simp only [Int32.le_iff_toInt_le, Int32.lt_iff_toInt_lt, t0i, e1] at *
      first | exact ht (by omega) | exact hf (by omega)
    · refine x_iconst (v := 1) qX5_has_12 rfl ?_
      refine x_goto (tgt := 17) qX5_has_13 (by omega) ?_
      refine x_iret qX5_has_17 rfl rfl ?_
      simp only [Int32.le_iff_toInt_le, Int32.lt_iff_toInt_lt, t0i, e1] at *
      first | exact ht (by omega) | exact hf (by omega)
theorem c_X5_wattsAt {k n r : Nat} (hM : isM k) (h0 : I k 1 = nI n) (hn : n ≤ 12) (hk : r < n) (hQ : Q (some (.int (I (k + 1) r))) I L (RR t hr tl) (DD t)) : cm_Ex l g 2 0 0 mX5_wattsAt 0 [.ref k, .int (nI r)] [] I L (RR t hr tl) (DD t) Q := by
  have e1 := nI_toInt (n := r) (by omega)
  refine x_aldn qX5_wattsAt_0 rfl trivial ?_
  refine x_ildn qX5_wattsAt_1 rfl ?_
  refine x_cV1 (d' := 1) qX5_wattsAt_2 cX5_19 (dd_M hM).1 ⟨_, rfl, rfl⟩ rfl rfl (Nat.le_of_ble_eq_true rfl) (Nat.le_of_ble_eq_true rfl) (by decide) ?_
  refine c_X5_has hM h0 hn (fun h2 => ?_) (fun h2 => absurd (by omega) h2)
  refine x_if_eq_f (tgt := 26) qX5_wattsAt_5 (by omega) (by decide) ?_
  refine x_ildn qX5_wattsAt_8 rfl ?_
  refine x_aldn qX5_wattsAt_9 rfl trivial ?_
  refine x_getR qX5_wattsAt_10 fX5_9 (dd_M hM).1 (rr_M hM) ?_
  refine x_alen qX5_wattsAt_13 (dd_M hM).2 (by decide) rfl ?_
  refine x_icmp_ge_nf (tgt := 26) qX5_wattsAt_14 (by omega) (by omega) (by omega) (by omega) ?_
  refine x_aldn qX5_wattsAt_17 rfl trivial ?_
  refine x_getR qX5_wattsAt_18 fX5_9 (dd_M hM).1 (rr_M hM) ?_
  refine x_ildn qX5_wattsAt_21 rfl ?_
  refine x_iald qX5_wattsAt_22 (dd_M hM).2 rfl (by omega) (by decide) ?_
  refine x_goto (tgt := 27) qX5_wattsAt_23 (by omega) ?_
  refine x_iret qX5_wattsAt_27 rfl rfl ?_
  exact hQ
theorem c_X5_add {k n : Nat} {v : Int32} (hM : isM k) (h0 : I k 1 = nI n) (hn : n < 12) (hQ : Q none (cm_u (cm_u I (k + 1) n v) k 1 (nI (n + 1))) L (RR t hr tl) (DD t)) : cm_Ex l g 1 0 0 mX5_add 0 [.ref k, .int v] [] I L (RR t hr tl) (DD t) Q := by
  have h1 : cm_u I (k + 1) n v k 1 = nI n := by rw [cm_u_ne (by omega)]; exact h0
  refine x_aldn qX5_add_0 rfl trivial ?_
  refine x_getIe qX5_add_1 fX5_15 (dd_M hM).1 h0 ?_
  refine x_if_lt_nf (tgt := 39) qX5_add_4 (by omega) (by omega) ?_
  refine x_aldn qX5_add_7 rfl trivial ?_
  refine x_getIe qX5_add_8 fX5_15 (dd_M hM).1 h0 ?_
  refine x_aldn qX5_add_11 rfl trivial ?_
  refine x_getR qX5_add_12 fX5_9 (dd_M hM).1 (rr_M hM) ?_
  refine x_alen qX5_add_15 (dd_M hM).2 (by decide) rfl ?_
  refine x_icmp_ge_nf (tgt := 39) qX5_add_16 (by omega) (by omega) (by omega) (by omega) ?_
  refine x_aldn qX5_add_19 rfl trivial ?_
  refine x_getR qX5_add_20 fX5_9 (dd_M hM).1 (rr_M hM) ?_
  refine x_aldn qX5_add_23 rfl trivial ?_
  refine x_getIe qX5_add_24 fX5_15 (dd_M hM).1 h0 ?_
  refine x_ildn qX5_add_27 rfl ?_
  refine x_iast qX5_add_28 (dd_M hM).2 rfl (by omega) (by decide) ?_
  refine x_aldn qX5_add_29 rfl trivial ?_
  refine x_dup qX5_add_30 rfl ?_
  refine x_getIe qX5_add_31 fX5_15 (dd_M hM).1 h1 ?_
  refine x_iconst (v := nI 1) qX5_add_34 rfl ?_
  refine x_iadd_n qX5_add_35 ?_
  refine x_putI qX5_add_36 fX5_15 (Or.inl rfl) (dd_M hM).1 ?_
  refine x_vret qX5_add_39 rfl ?_
  exact hQ
theorem c_X5_copy {k j : Nat} (hM : isM k) (hJ : isM j) (hkj : k + 1 < j ∨ j + 1 < k) (hQ : Q none (cm_u (fun b i => if b = k + 1 ∧ i < 12 then I (j + 1) i else I b i) k 1 (I j 1)) L (RR t hr tl) (DD t)) : cm_Ex l g 1 0 0 mX5_copy 0 [.ref k, .ref j, .float 0] [] I L (RR t hr tl) (DD t) Q := by
  have loop : ∀ n s, s + n = 12 → cm_Ex l g 1 0 0 mX5_copy 2 [.ref k, .ref j, .int (nI s)] [] (fun b i => if b = k + 1 ∧ i < s then I (j + 1) i else I b i) L (RR t hr tl) (DD t) Q := by
    intro n
    induction n with
    | zero =>
      intro s hs
      have e : s = 12 := by omega
      subst e
      refine x_ildn qX5_copy_2 rfl ?_
      refine x_aldn qX5_copy_3 rfl trivial ?_
      refine x_getR qX5_copy_4 fX5_9 (dd_M hM).1 (rr_M hM) ?_
      refine x_alen qX5_copy_7 (dd_M hM).2 (by decide) rfl ?_
      refine x_icmp_ge_nt (tgt := 38) qX5_copy_8 (by omega) (by omega) (by omega) (by omega) ?_
      refine x_aldn qX5_copy_38 rfl trivial ?_
      refine x_aldn qX5_copy_39 rfl trivial ?_
      refine x_getIe qX5_copy_40 fX5_15 (dd_M hJ).1 (show (if j = k + 1 ∧ 1 < 12 then I (j + 1) 1 else I j 1) = I j 1 from if_neg (by omega)) ?_
      refine x_putI qX5_copy_43 fX5_15 (Or.inl rfl) (dd_M hM).1 ?_
      refine x_vret qX5_copy_46 rfl ?_
      exact hQ
    | succ n ih =>
      intro s hs
      have hm := ih (s + 1) (by omega)
      refine x_ildn qX5_copy_2 rfl ?_
      refine x_aldn qX5_copy_3 rfl trivial ?_
      refine x_getR qX5_copy_4 fX5_9 (dd_M hM).1 (rr_M hM) ?_
      refine x_alen qX5_copy_7 (dd_M hM).2 (by decide) rfl ?_
      refine x_icmp_ge_nf (tgt := 38) qX5_copy_8 (by omega) (by omega) (by omega) (by omega) ?_
      refine x_ildn qX5_copy_11 rfl ?_
      refine x_aldn qX5_copy_12 rfl trivial ?_
      refine x_getR qX5_copy_13 fX5_9 (dd_M hJ).1 (rr_M hJ) ?_
      refine x_alen qX5_copy_16 (dd_M hJ).2 (by decide) rfl ?_
      refine x_icmp_ge_nf (tgt := 38) qX5_copy_17 (by omega) (by omega) (by omega) (by omega) ?_
      refine x_aldn qX5_copy_20 rfl trivial ?_
      refine x_getR qX5_copy_21 fX5_9 (dd_M hM).1 (rr_M hM) ?_
      refine x_ildn qX5_copy_24 rfl ?_
      refine x_aldn qX5_copy_25 rfl trivial ?_
      refine x_getR qX5_copy_26 fX5_9 (dd_M hJ).1 (rr_M hJ) ?_
      refine x_ildn qX5_copy_29 rfl ?_
      refine x_ialde qX5_copy_30 (dd_M hJ).2 rfl (by omega) (by decide) (show (if j + 1 = k + 1 ∧ s < s then I (j + 1) s else I (j + 1) s) = I (j + 1) s by split <;> rfl) ?_
      refine x_iast qX5_copy_31 (dd_M hM).2 rfl (by omega) (by decide) ?_
      refine x_iinc2 qX5_copy_32 (by decide) (cm_inc _) rfl ?_
      refine x_goto (tgt := 2) qX5_copy_35 (by omega) ?_
      refine x_memI ?_ hm
      funext b i
      unfold cm_u
      by_cases hb : b = k + 1
      · subst hb
        by_cases hi : i = s
        · subst hi; simp
        · have e1 : (i < s + 1) ↔ i < s := by omega
          simp [hi, e1]
      · simp [hb]
  refine x_iconst (v := nI 0) qX5_copy_0 rfl ?_
  refine x_ist2 qX5_copy_1 (by decide) rfl ?_
  refine x_memI ?_ (loop 12 0 rfl)
  funext b i
  simp
end K2
