/-! House: tables and steps -/
section K8
variable {l : Launch} {g : cm_G} {I : cm_I} {L : cm_L} {t h : Nat} {hr tl : Option Nat} {Q : cm_Post}
theorem c_X1_placeOf {R : cm_R} {ds : cm_Ds} {a b : Nat} (ha : a < 4) (hb : b < 4) (hQ : Q (some (.int (nI (4 * a + b)))) I L R ds) : cm_Ex l g 1 0 0 mX1_placeOf 0 [.int (nI a), .int (nI b), .float 0] [] I L R ds Q := by
  have e : 4 * a + b = a * 4 + b := by omega
  rw [e] at hQ
  refine x_ildn qX1_placeOf_0 rfl ?_
  refine x_if_lt_nf (tgt := 22) qX1_placeOf_1 (by omega) (by omega) ?_
  refine x_ildn qX1_placeOf_4 rfl ?_
  refine x_iconst (v := nI 4) qX1_placeOf_5 rfl ?_
  refine x_icmp_ge_nf (tgt := 22) qX1_placeOf_6 (by omega) (by omega) (by omega) (by omega) ?_
  refine x_ildn qX1_placeOf_9 rfl ?_
  refine x_if_lt_nf (tgt := 22) qX1_placeOf_10 (by omega) (by omega) ?_
  refine x_ildn qX1_placeOf_13 rfl ?_
  refine x_iconst (v := nI 4) qX1_placeOf_14 rfl ?_
  refine x_icmp_ge_nf (tgt := 22) qX1_placeOf_15 (by omega) (by omega) (by omega) (by omega) ?_
  refine x_iconst (v := nI 1) qX1_placeOf_18 rfl ?_
  refine x_goto (tgt := 23) qX1_placeOf_19 (by omega) ?_
  refine x_ist2 qX1_placeOf_23 (by decide) rfl ?_
  refine x_ildn qX1_placeOf_24 rfl ?_
  refine x_if_eq_f (tgt := 36) qX1_placeOf_25 (by omega) (by decide) ?_
  refine x_ildn qX1_placeOf_28 rfl ?_
  refine x_iconst (v := nI 4) qX1_placeOf_29 rfl ?_
  refine x_imul_n qX1_placeOf_30 ?_
  refine x_ildn qX1_placeOf_31 rfl ?_
  refine x_iadd_n qX1_placeOf_32 ?_
  refine x_goto (tgt := 37) qX1_placeOf_33 (by omega) ?_
  refine x_iret qX1_placeOf_37 rfl rfl ?_
  exact hQ
theorem c_X1_takeOf {a b : Nat} (hh : h < 7) (ha : a < 4) (hb : b < 4) (hQ : Q (some (.int (I (hA h + 1) (4 * a + b)))) I L (RR t hr tl) (DD t)) : cm_Ex l g 2 0 0 mX1_takeOf 0 [.ref (hA h), .int (nI a), .int (nI b), .float 0] [] I L (RR t hr tl) (DD t) Q := by
  refine x_ildn qX1_takeOf_0 rfl ?_
  refine x_ildn qX1_takeOf_1 rfl ?_
  refine x_cS2 (d' := 1) qX1_takeOf_2 cX1_31 rfl rfl (Nat.le_of_ble_eq_true rfl) (Nat.le_of_ble_eq_true rfl) (by decide) ?_
  refine c_X1_placeOf ha hb ?_
  refine x_ist3 qX1_takeOf_5 (by decide) rfl ?_
  refine x_ildn qX1_takeOf_6 rfl ?_
  refine x_if_lt_nf (tgt := 28) qX1_takeOf_7 (by omega) (by omega) ?_
  refine x_ildn qX1_takeOf_10 rfl ?_
  refine x_aldn qX1_takeOf_11 rfl trivial ?_
  refine x_getR qX1_takeOf_12 fX1_9 (dd_hA hh).1 (rr_hA hh).1 ?_
  refine x_alen qX1_takeOf_15 (dd_hA hh).2.1 (by decide) rfl ?_
  refine x_icmp_ge_nf (tgt := 28) qX1_takeOf_16 (by omega) (by omega) (by omega) (by omega) ?_
  refine x_aldn qX1_takeOf_19 rfl trivial ?_
  refine x_getR qX1_takeOf_20 fX1_9 (dd_hA hh).1 (rr_hA hh).1 ?_
  refine x_ildn qX1_takeOf_23 rfl ?_
  refine x_iald qX1_takeOf_24 (dd_hA hh).2.1 rfl (by omega) (by decide) ?_
  refine x_goto (tgt := 29) qX1_takeOf_25 (by omega) ?_
  refine x_iret qX1_takeOf_29 rfl rfl ?_
  exact hQ
theorem c_X1_gladOf {a b : Nat} (hh : h < 7) (ha : a < 4) (hb : b < 4) (hQ : Q (some (.int (I (hA h + 2) (4 * a + b)))) I L (RR t hr tl) (DD t)) : cm_Ex l g 2 0 0 mX1_gladOf 0 [.ref (hA h), .int (nI a), .int (nI b), .float 0] [] I L (RR t hr tl) (DD t) Q := by
  refine x_ildn qX1_gladOf_0 rfl ?_
  refine x_ildn qX1_gladOf_1 rfl ?_
  refine x_cS2 (d' := 1) qX1_gladOf_2 cX1_31 rfl rfl (Nat.le_of_ble_eq_true rfl) (Nat.le_of_ble_eq_true rfl) (by decide) ?_
  refine c_X1_placeOf ha hb ?_
  refine x_ist3 qX1_gladOf_5 (by decide) rfl ?_
  refine x_ildn qX1_gladOf_6 rfl ?_
  refine x_if_lt_nf (tgt := 28) qX1_gladOf_7 (by omega) (by omega) ?_
  refine x_ildn qX1_gladOf_10 rfl ?_
  refine x_aldn qX1_gladOf_11 rfl trivial ?_
  refine x_getR qX1_gladOf_12 fX1_15 (dd_hA hh).1 (rr_hA hh).2.1 ?_
  refine x_alen qX1_gladOf_15 (dd_hA hh).2.2.1 (by decide) rfl ?_
  refine x_icmp_ge_nf (tgt := 28) qX1_gladOf_16 (by omega) (by omega) (by omega) (by omega) ?_
  refine x_aldn qX1_gladOf_19 rfl trivial ?_
  refine x_getR qX1_gladOf_20 fX1_15 (dd_hA hh).1 (rr_hA hh).2.1 ?_
  refine x_ildn qX1_gladOf_23 rfl ?_
  refine x_iald qX1_gladOf_24 (dd_hA hh).2.2.1 rfl (by omega) (by decide) ?_
  refine x_goto (tgt := 29) qX1_gladOf_25 (by omega) ?_
  refine x_iret qX1_gladOf_29 rfl rfl ?_
  exact hQ
theorem c_X1_setTake {a b : Nat} {v : Int32} (hh : h < 7) (ha : a < 4) (hb : b < 4) (hQ : Q none (cm_u I (hA h + 1) (4 * a + b) v) L (RR t hr tl) (DD t)) : cm_Ex l g 2 0 0 mX1_setTake 0 [.ref (hA h), .int (nI a), .int (nI b), .int v, .float 0] [] I L (RR t hr tl) (DD t) Q := by
  refine x_ildn qX1_setTake_0 rfl ?_
  refine x_ildn qX1_setTake_1 rfl ?_
  refine x_cS2 (d' := 1) qX1_setTake_2 cX1_31 rfl rfl (Nat.le_of_ble_eq_true rfl) (Nat.le_of_ble_eq_true rfl) (by decide) ?_
  refine c_X1_placeOf ha hb ?_
  refine x_ist4 qX1_setTake_5 (by decide) rfl ?_
  refine x_ild qX1_setTake_7 rfl ?_
  refine x_if_lt_nf (tgt := 30) qX1_setTake_9 (by omega) (by omega) ?_
  refine x_ild qX1_setTake_12 rfl ?_
  refine x_aldn qX1_setTake_14 rfl trivial ?_
  refine x_getR qX1_setTake_15 fX1_9 (dd_hA hh).1 (rr_hA hh).1 ?_
  refine x_alen qX1_setTake_18 (dd_hA hh).2.1 (by decide) rfl ?_
  refine x_icmp_ge_nf (tgt := 30) qX1_setTake_19 (by omega) (by omega) (by omega) (by omega) ?_
  refine x_aldn qX1_setTake_22 rfl trivial ?_
  refine x_getR qX1_setTake_23 fX1_9 (dd_hA hh).1 (rr_hA hh).1 ?_
  refine x_ild qX1_setTake_26 rfl ?_
  refine x_ildn qX1_setTake_28 rfl ?_
  refine x_iast qX1_setTake_29 (dd_hA hh).2.1 rfl (by omega) (by decide) ?_
  refine x_vret qX1_setTake_30 rfl ?_
  exact hQ
theorem c_X1_setGlad {a b : Nat} {v : Int32} (hh : h < 7) (ha : a < 4) (hb : b < 4) (hQ : Q none (cm_u I (hA h + 2) (4 * a + b) v) L (RR t hr tl) (DD t)) : cm_Ex l g 2 0 0 mX1_setGlad 0 [.ref (hA h), .int (nI a), .int (nI b), .int v, .float 0] [] I L (RR t hr tl) (DD t) Q := by
  refine x_ildn qX1_setGlad_0 rfl ?_
  refine x_ildn qX1_setGlad_1 rfl ?_
  refine x_cS2 (d' := 1) qX1_setGlad_2 cX1_31 rfl rfl (Nat.le_of_ble_eq_true rfl) (Nat.le_of_ble_eq_true rfl) (by decide) ?_
  refine c_X1_placeOf ha hb ?_
  refine x_ist4 qX1_setGlad_5 (by decide) rfl ?_
  refine x_ild qX1_setGlad_7 rfl ?_
  refine x_if_lt_nf (tgt := 30) qX1_setGlad_9 (by omega) (by omega) ?_
  refine x_ild qX1_setGlad_12 rfl ?_
  refine x_aldn qX1_setGlad_14 rfl trivial ?_
  refine x_getR qX1_setGlad_15 fX1_15 (dd_hA hh).1 (rr_hA hh).2.1 ?_
  refine x_alen qX1_setGlad_18 (dd_hA hh).2.2.1 (by decide) rfl ?_
  refine x_icmp_ge_nf (tgt := 30) qX1_setGlad_19 (by omega) (by omega) (by omega) (by omega) ?_
  refine x_aldn qX1_setGlad_22 rfl trivial ?_
  refine x_getR qX1_setGlad_23 fX1_15 (dd_hA hh).1 (rr_hA hh).2.1 ?_
  refine x_ild qX1_setGlad_26 rfl ?_
  refine x_ildn qX1_setGlad_28 rfl ?_
  refine x_iast qX1_setGlad_29 (dd_hA hh).2.2.1 rfl (by omega) (by decide) ?_
  refine x_vret qX1_setGlad_30 rfl ?_
  exact hQ
theorem c_X1_names {a nm : Nat} (hh : h < 7) (ha : a < 4) (h4 : I (hA h) 4 = nI nm) (hnm : nm < 32) (ht : nm / 2 ^ a % 2 = 1 → Q (some (.int 1)) I L (RR t hr tl) (DD t)) (hf : ¬ nm / 2 ^ a % 2 = 1 → Q (some (.int 0)) I L (RR t hr tl) (DD t)) : cm_Ex l g 1 0 0 mX1_names 0 [.ref (hA h), .int (nI a)] [] I L (RR t hr tl) (DD t) Q := by
  refine x_aldn qX1_names_0 rfl trivial ?_
  refine x_getIe qX1_names_1 fX1_25 (dd_hA hh).1 h4 ?_
  refine x_ildn qX1_names_4 rfl ?_
  refine x_ishr qX1_names_5 ?_
  refine x_iconst (v := nI 1) qX1_names_6 rfl ?_
  refine x_iand qX1_names_7 ?_
  rw [ib_in (by omega) (by omega)]
  refine x_if_eq_n (tgt := 15) qX1_names_8 (by omega) (by omega) (fun h8 => ?_) (fun h8 => ?_)
  · refine x_iconst (v := nI 0) qX1_names_15 rfl ?_
    refine x_iret qX1_names_16 rfl rfl ?_
    first | exact ht (by omega) | exact hf (by omega)
  · refine x_iconst (v := nI 1) qX1_names_11 rfl ?_
    refine x_goto (tgt := 16) qX1_names_12 (by omega) ?_
    refine x_iret qX1_names_16 rfl rfl ?_
    first | exact ht (by omega) | exact hf (by omega)
theorem c_X1_addStep {n : Nat} {v : Int32} (hh : h < 7) (h3 : I (hA h) 3 = nI n) (hn : n ≤ 100) (hQ : Q none (if n < 100 then cm_u (cm_u I (hA h + 3) n v) (hA h) 3 (nI (n + 1)) else I) L (RR t hr tl) (DD t)) : cm_Ex l g 1 0 0 mX1_addStep 0 [.ref (hA h), .int v] [] I L (RR t hr tl) (DD t) Q := by
  by_cases hc : n < 100
  · rw [if_pos hc] at hQ
    refine x_aldn qX1_addStep_0 rfl trivial ?_
    refine x_getIe qX1_addStep_1 fX1_21 (dd_hA hh).1 h3 ?_
    refine x_if_lt_nf (tgt := 39) qX1_addStep_4 (by omega) (by omega) ?_
    refine x_aldn qX1_addStep_7 rfl trivial ?_
    refine x_getIe qX1_addStep_8 fX1_21 (dd_hA hh).1 h3 ?_
    refine x_aldn qX1_addStep_11 rfl trivial ?_
    refine x_getR qX1_addStep_12 fX1_18 (dd_hA hh).1 (rr_hA hh).2.2 ?_
    refine x_alen qX1_addStep_15 (dd_hA hh).2.2.2 (by decide) rfl ?_
    refine x_icmp_ge_nf (tgt := 39) qX1_addStep_16 (by omega) (by omega) (by omega) (by omega) ?_
    refine x_aldn qX1_addStep_19 rfl trivial ?_
    refine x_getR qX1_addStep_20 fX1_18 (dd_hA hh).1 (rr_hA hh).2.2 ?_
    refine x_aldn qX1_addStep_23 rfl trivial ?_
    refine x_getIe qX1_addStep_24 fX1_21 (dd_hA hh).1 h3 ?_
    refine x_ildn qX1_addStep_27 rfl ?_
    refine x_iast qX1_addStep_28 (dd_hA hh).2.2.2 rfl (by omega) (by decide) ?_
    refine x_aldn qX1_addStep_29 rfl trivial ?_
    refine x_dup qX1_addStep_30 rfl ?_
    refine x_getIe qX1_addStep_31 fX1_21 (dd_hA hh).1 (show cm_u I (hA h + 3) n v (hA h) 3 = nI n by rw [cm_u_ne (by omega)]; exact h3) ?_
    refine x_iconst (v := nI 1) qX1_addStep_34 rfl ?_
    refine x_iadd_n qX1_addStep_35 ?_
    refine x_putI qX1_addStep_36 fX1_21 (Or.inl rfl) (dd_hA hh).1 ?_
    refine x_vret qX1_addStep_39 rfl ?_
    exact hQ
  · rw [if_neg hc] at hQ
    refine x_aldn qX1_addStep_0 rfl trivial ?_
    refine x_getIe qX1_addStep_1 fX1_21 (dd_hA hh).1 h3 ?_
    refine x_if_lt_nf (tgt := 39) qX1_addStep_4 (by omega) (by omega) ?_
    refine x_aldn qX1_addStep_7 rfl trivial ?_
    refine x_getIe qX1_addStep_8 fX1_21 (dd_hA hh).1 h3 ?_
    refine x_aldn qX1_addStep_11 rfl trivial ?_
    refine x_getR qX1_addStep_12 fX1_18 (dd_hA hh).1 (rr_hA hh).2.2 ?_
    refine x_alen qX1_addStep_15 (dd_hA hh).2.2.2 (by decide) rfl ?_
    refine x_icmp_ge_nt (tgt := 39) qX1_addStep_16 (by omega) (by omega) (by omega) (by omega) ?_
    refine x_vret qX1_addStep_39 rfl ?_
    exact hQ
theorem c_X1_addTest {n a s x nm : Nat} (hh : h < 7) (ha : a < 5) (hs : s < 3) (hx : x < 100) (h3 : I (hA h) 3 = nI n) (hn : n < 100) (h4 : I (hA h) 4 = nI nm) (hQ : Q none (cm_u (cm_u (cm_u I (hA h) 4 (nI nm ||| nI 1 <<< (nI a &&& 31))) (hA h + 3) n (nI ((x * 3 + s) * 5 + a))) (hA h) 3 (nI (n + 1))) L (RR t hr tl) (DD t)) : cm_Ex l g 2 0 0 mX1_addTest 0 [.ref (hA h), .int (nI a), .int (nI s), .int (nI x)] [] I L (RR t hr tl) (DD t) Q := by
  refine x_aldn qX1_addTest_0 rfl trivial ?_
  refine x_dup qX1_addTest_1 rfl ?_
  refine x_getIe qX1_addTest_2 fX1_25 (dd_hA hh).1 h4 ?_
  refine x_iconst (v := nI 1) qX1_addTest_5 rfl ?_
  refine x_ildn qX1_addTest_6 rfl ?_
  refine x_ishl qX1_addTest_7 ?_
  refine x_ior qX1_addTest_8 ?_
  refine x_putI qX1_addTest_9 fX1_25 (Or.inl rfl) (dd_hA hh).1 ?_
  refine x_aldn qX1_addTest_12 rfl trivial ?_
  refine x_ildn qX1_addTest_13 rfl ?_
  refine x_iconst (v := nI 3) qX1_addTest_14 rfl ?_
  refine x_imul_n qX1_addTest_15 ?_
  refine x_ildn qX1_addTest_16 rfl ?_
  refine x_iadd_n qX1_addTest_17 ?_
  refine x_iconst (v := nI 5) qX1_addTest_18 rfl ?_
  refine x_imul_n qX1_addTest_19 ?_
  refine x_ildn qX1_addTest_20 rfl ?_
  refine x_iadd_n qX1_addTest_21 ?_
  refine x_cV1 (d' := 1) qX1_addTest_22 cX1_35 (dd_hA hh).1 ⟨_, rfl, rfl⟩ rfl rfl (Nat.le_of_ble_eq_true rfl) (Nat.le_of_ble_eq_true rfl) (by decide) ?_
  refine c_X1_addStep hh (show cm_u I (hA h) 4 _ (hA h) 3 = nI n by unfold cm_u; rw [if_pos rfl, if_neg (by decide)]; exact h3) (by omega) ?_
  refine x_vret qX1_addTest_25 rfl ?_
  rw [if_pos hn]; exact hQ
theorem c_X1_empty (hh : h < 7) (hQ : Q none (fun b i => if (b = hA h + 1 ∨ b = hA h + 2) ∧ i < 16 then 0 else if b = hA h ∧ (i = 3 ∨ i = 4 ∨ i = 5) then 0 else I b i) L (RR t hr tl) (DD t)) : cm_Ex l g 1 0 0 mX1_empty 0 [.ref (hA h), .float 0] [] I L (RR t hr tl) (DD t) Q := by
  have loop : ∀ m s, s + m = 16 → cm_Ex l g 1 0 0 mX1_empty 2 [.ref (hA h), .int (nI s)] [] (fun b i => if (b = hA h + 1 ∨ b = hA h + 2) ∧ i < s then 0 else I b i) L (RR t hr tl) (DD t) Q := by
    intro m
    induction m with
    | zero =>
      intro s hs
      have e : s = 16 := by omega
      subst e
      refine x_ildn qX1_empty_2 rfl ?_
      refine x_aldn qX1_empty_3 rfl trivial ?_
      refine x_getR qX1_empty_4 fX1_9 (dd_hA hh).1 (rr_hA hh).1 ?_
      refine x_alen qX1_empty_7 (dd_hA hh).2.1 (by decide) rfl ?_
      refine x_icmp_ge_nt (tgt := 40) qX1_empty_8 (by omega) (by omega) (by omega) (by omega) ?_
      refine x_aldn qX1_empty_40 rfl trivial ?_
      refine x_iconst (v := nI 0) qX1_empty_41 rfl ?_
      refine x_putI qX1_empty_42 fX1_21 (Or.inl rfl) (dd_hA hh).1 ?_
      refine x_aldn qX1_empty_45 rfl trivial ?_
      refine x_iconst (v := nI 0) qX1_empty_46 rfl ?_
      refine x_putI qX1_empty_47 fX1_25 (Or.inl rfl) (dd_hA hh).1 ?_
      refine x_aldn qX1_empty_50 rfl trivial ?_
      refine x_iconst (v := nI 0) qX1_empty_51 rfl ?_
      refine x_putI qX1_empty_52 fX1_28 (Or.inl rfl) (dd_hA hh).1 ?_
      refine x_vret qX1_empty_55 rfl ?_
      refine (congrArg (fun z => Q none z L (RR t hr tl) (DD t)) ?_).mp hQ
      funext b i
      unfold cm_u
      by_cases hb : b = hA h
      · subst hb
        have e1 : ¬ (hA h = hA h + 1 ∨ hA h = hA h + 2) := by omega
        by_cases h5 : i = 5
        · subst h5; simp [e1]; rfl
        · by_cases h4 : i = 4
          · subst h4; simp [e1]; rfl
          · by_cases h3 : i = 3
            · subst h3; simp [e1]; rfl
            · simp [h3, h4, h5, e1]
      · simp [hb]
    | succ m ih =>
      intro s hs
      refine x_ildn qX1_empty_2 rfl ?_
      refine x_aldn qX1_empty_3 rfl trivial ?_
      refine x_getR qX1_empty_4 fX1_9 (dd_hA hh).1 (rr_hA hh).1 ?_
      refine x_alen qX1_empty_7 (dd_hA hh).2.1 (by decide) rfl ?_
      refine x_icmp_ge_nf (tgt := 40) qX1_empty_8 (by omega) (by omega) (by omega) (by omega) ?_
      refine x_ildn qX1_empty_11 rfl ?_
      refine x_aldn qX1_empty_12 rfl trivial ?_
      refine x_getR qX1_empty_13 fX1_15 (dd_hA hh).1 (rr_hA hh).2.1 ?_
      refine x_alen qX1_empty_16 (dd_hA hh).2.2.1 (by decide) rfl ?_
      refine x_icmp_ge_nf (tgt := 40) qX1_empty_17 (by omega) (by omega) (by omega) (by omega) ?_
      refine x_aldn qX1_empty_20 rfl trivial ?_
      refine x_getR qX1_empty_21 fX1_9 (dd_hA hh).1 (rr_hA hh).1 ?_
      refine x_ildn qX1_empty_24 rfl ?_
      refine x_iconst (v := nI 0) qX1_empty_25 rfl ?_
      refine x_iast qX1_empty_26 (dd_hA hh).2.1 rfl (by omega) (by decide) ?_
      refine x_aldn qX1_empty_27 rfl trivial ?_
      refine x_getR qX1_empty_28 fX1_15 (dd_hA hh).1 (rr_hA hh).2.1 ?_
      refine x_ildn qX1_empty_31 rfl ?_
      refine x_iconst (v := nI 0) qX1_empty_32 rfl ?_
      refine x_iast qX1_empty_33 (dd_hA hh).2.2.1 rfl (by omega) (by decide) ?_
      refine x_iinc1 qX1_empty_34 (by decide) (cm_inc _) rfl ?_
      refine x_goto (tgt := 2) qX1_empty_37 (by omega) ?_
      refine x_memI ?_ (ih (s + 1) (by omega))
      funext b i
      unfold cm_u
      by_cases h2 : b = hA h + 2
      · subst h2
        have e1 : ¬ (hA h + 2 = hA h + 1) := by omega
        by_cases hi : i = s
        · subst hi; simp
          rfl
        · have q1 : (i < s + 1) ↔ i < s := by omega
          simp [hi, q1, e1]
      · by_cases h1 : b = hA h + 1
        · subst h1
          by_cases hi : i = s
          · subst hi; simp
            rfl
          · have q1 : (i < s + 1) ↔ i < s := by omega
            simp [hi, q1]
        · simp [h1, h2]
  refine x_iconst (v := nI 0) qX1_empty_0 rfl ?_
  refine x_ist1 qX1_empty_1 (by decide) rfl ?_
  refine x_memI ?_ (loop 16 0 rfl)
  funext b i
  simp
end K8
