/-! HouseReader: numbers, tests, tables -/
section RDR2
variable {h len p : Nat} {tx tk gl : Nat → Nat} {gv : Nat} {toks : List Nat} {I : cm_I}
theorem pOne_le {i p p' : Nat} (hi : i < 8) (hp : p ≤ len) {o : Option Nat} (h : pOne i (pk len tx) p = (p', o)) : p ≤ p' ∧ p' ≤ len := by
  cases o with
  | some j => have := pOne_some hi h; omega
  | none =>
    unfold pOne at h
    cases hf : fnd (tyn i) (pk len tx p) with
    | none => rw [hf] at h; cases h; omega
    | some j => rw [hf] at h; cases h
end RDR2
section K13
variable {l : Launch} {g : cm_G} {I : cm_I} {L : cm_L} {n h len p : Nat} {tl : Option Nat} {Q : cm_Post} {tx tk gl : Nat → Nat} {gv : Nat} {toks : List Nat}
theorem c_X2_isFigure {c : Nat} {R : cm_R} {ds : cm_Ds} (hc : c < 257) (ht : 48 ≤ c ∧ c ≤ 57 → Q (some (.int 1)) I L R ds) (hf : ¬ (48 ≤ c ∧ c ≤ 57) → Q (some (.int 0)) I L R ds) : cm_Ex l g 1 0 0 mX2_isFigure 0 [.int (bvI c)] [] I L R ds Q := by
  by_cases h2 : c < 256
  · rw [bvI_lt h2]
    refine x_ildn qX2_isFigure_0 rfl ?_
    refine x_bipush (v := nI 48) qX2_isFigure_1 rfl ?_
    refine x_icmp_lt_n (tgt := 16) qX2_isFigure_3 (by omega) (by omega) (by omega) (fun h3 => ?_) (fun h3 => ?_)
    · refine x_iconst (v := nI 0) qX2_isFigure_16 rfl ?_
      refine x_iret qX2_isFigure_17 rfl rfl ?_
      first | exact ht (by omega) | exact hf (by omega)
    · refine x_ildn qX2_isFigure_6 rfl ?_
      refine x_bipush (v := nI 57) qX2_isFigure_7 rfl ?_
      refine x_icmp_gt_n (tgt := 16) qX2_isFigure_9 (by omega) (by omega) (by omega) (fun h9 => ?_) (fun h9 => ?_)
      · refine x_iconst (v := nI 0) qX2_isFigure_16 rfl ?_
        refine x_iret qX2_isFigure_17 rfl rfl ?_
        first | exact ht (by omega) | exact hf (by omega)
      · refine x_iconst (v := nI 1) qX2_isFigure_12 rfl ?_
        refine x_goto (tgt := 17) qX2_isFigure_13 (by omega) ?_
        refine x_iret qX2_isFigure_17 rfl rfl ?_
        first | exact ht (by omega) | exact hf (by omega)
  · have e : bvI c = -1 := if_neg h2
    rw [e]
    refine x_ildn qX2_isFigure_0 rfl ?_
    refine x_bipush (v := nI 48) qX2_isFigure_1 rfl ?_
    refine x_icmp_lt_t (tgt := 16) qX2_isFigure_3 (by omega) (by decide) ?_
    refine x_iconst (v := nI 0) qX2_isFigure_16 rfl ?_
    refine x_iret qX2_isFigure_17 rfl rfl ?_
    exact hf (by omega)
theorem c_X2_readNumberF {m i : Nat} {x : Int32} (hm : m ≤ 3) (hi : i ≤ 3) (S : RF h len tx p I) (hno : Q (some (.int x)) I L (RR n (some (hA h)) tl) (DD n)) : cm_Ex l g 6 0 0 mX2_readNumber 9 [.ref 9, .int (nI m), .int x, .int (nI i)] [] I L (RR n (some (hA h)) tl) (DD n) Q := by
  by_cases him : i < m
  · refine x_ildn qX2_readNumber_9 rfl ?_
    refine x_ildn qX2_readNumber_10 rfl ?_
    refine x_icmp_ge_nf (tgt := 74) qX2_readNumber_11 (by omega) (by omega) (by omega) (by omega) ?_
    refine x_aldn qX2_readNumber_14 rfl trivial ?_
    refine x_getZe qX2_readNumber_15 fX2_19 dd_9 S.2.2.2.1 ?_
    refine x_if_eq_t (tgt := 74) qX2_readNumber_18 (by omega) (by decide) ?_
    refine x_ildn qX2_readNumber_74 rfl ?_
    refine x_iret qX2_readNumber_75 rfl rfl ?_
    exact hno
  · refine x_ildn qX2_readNumber_9 rfl ?_
    refine x_ildn qX2_readNumber_10 rfl ?_
    refine x_icmp_ge_nt (tgt := 74) qX2_readNumber_11 (by omega) (by omega) (by omega) (by omega) ?_
    refine x_ildn qX2_readNumber_74 rfl ?_
    refine x_iret qX2_readNumber_75 rfl rfl ?_
    exact hno
theorem c_X2_readNumber0 {m : Nat} (hm : m ≤ 3) (S : RF h len tx p I) (hno : ∀ I', RF h len tx p I' → FR h I I' → Q (some (.int 0)) I' L (RR n (some (hA h)) tl) (DD n)) : cm_Ex l g 6 0 0 mX2_readNumber 0 [.ref 9, .int (nI m), .float 0, .float 0] [] I L (RR n (some (hA h)) tl) (DD n) Q := by
  refine x_aldn qX2_readNumber_0 rfl trivial ?_
  refine x_ldcS (i := 7) qX2_readNumber_1 rfl rfl ?_
  refine x_cV1 (d' := 5) qX2_readNumber_3 cX2_75 dd_9 ⟨_, rfl, rfl⟩ rfl rfl (Nat.le_of_ble_eq_true rfl) (Nat.le_of_ble_eq_true rfl) (by decide) ?_
  refine c_X2_readOneOf0 (i := 7) (by decide) S (fun I2 S2 F2 => ?_)
  refine x_ist2 qX2_readNumber_6 (by decide) rfl ?_
  refine x_iconst (v := nI 1) qX2_readNumber_7 rfl ?_
  refine x_ist3 qX2_readNumber_8 (by decide) rfl ?_
  exact c_X2_readNumberF hm (by omega) S2 (hno _ S2 F2)
theorem c_X2_readNumber {m : Nat} (hm : m ≤ 3) (S : RS h len tx tk gl gv toks p I) (hok : ∀ p' x I', pNum (pk len tx) m p = (p', some x) → RS h len tx tk gl gv toks p' I' → FR h I I' → Q (some (.int (nI x))) I' L (RR n (some (hA h)) tl) (DD n)) (hno : ∀ p' I', pNum (pk len tx) m p = (p', none) → RF h len tx p' I' → FR h I I' → Q (some (.int 0)) I' L (RR n (some (hA h)) tl) (DD n)) : cm_Ex l g 6 0 0 mX2_readNumber 0 [.ref 9, .int (nI m), .float 0, .float 0] [] I L (RR n (some (hA h)) tl) (DD n) Q := by
  have loop : ∀ k i q x I1, 1 ≤ i → i ≤ 3 → k = m - i → RS h len tx tk gl gv toks q I1 → (∀ p' x' I', pDig (pk len tx) k q x = (p', x') → RS h len tx tk gl gv toks p' I' → FR h I1 I' → Q (some (.int (nI x'))) I' L (RR n (some (hA h)) tl) (DD n)) → cm_Ex l g 6 0 0 mX2_readNumber 9 [.ref 9, .int (nI m), .int (nI x), .int (nI i)] [] I1 L (RR n (some (hA h)) tl) (DD n) Q := by
    intro k
    induction k with
    | zero =>
      intro i q x I1 h1 hi hk S1 hq
      refine x_ildn qX2_readNumber_9 rfl ?_
      refine x_ildn qX2_readNumber_10 rfl ?_
      refine x_icmp_ge_nt (tgt := 74) qX2_readNumber_11 (by omega) (by omega) (by omega) (by omega) ?_
      refine x_ildn qX2_readNumber_74 rfl ?_
      refine x_iret qX2_readNumber_75 rfl rfl ?_
      exact hq q x I1 rfl S1 FR_rfl
    | succ k ih =>
      intro i q x I1 h1 hi hk S1 hq
      have hl := S1.1.2.1
      have hp := S1.2.1
      have hd : pDig (pk len tx) (k + 1) q x = if 48 ≤ pk len tx q ∧ pk len tx q ≤ 57 then pDig (pk len tx) k (q + 1) (x * 10 + pk len tx q - 48) else (q, x) := rfl
      refine x_ildn qX2_readNumber_9 rfl ?_
      refine x_ildn qX2_readNumber_10 rfl ?_
      refine x_icmp_ge_nf (tgt := 74) qX2_readNumber_11 (by omega) (by omega) (by omega) (by omega) ?_
      refine x_aldn qX2_readNumber_14 rfl trivial ?_
      refine x_getZe qX2_readNumber_15 fX2_19 dd_9 S1.2.2.2.1 ?_
      refine x_if_eq_f (tgt := 74) qX2_readNumber_18 (by omega) (by decide) ?_
      refine x_aldn qX2_readNumber_21 rfl trivial ?_
      refine x_getR qX2_readNumber_22 fX2_23 dd_9 rfl ?_
      refine x_aldn qX2_readNumber_25 rfl trivial ?_
      refine x_getIe qX2_readNumber_26 fX2_15 dd_9 S1.2.2.1 ?_
      refine x_cV1 (d' := 1) qX2_readNumber_29 cX2_44 dd_7 ⟨_, rfl, rfl⟩ rfl rfl (Nat.le_of_ble_eq_true rfl) (Nat.le_of_ble_eq_true rfl) (by decide) ?_
      refine c_bA S1.1 (by omega) ?_
      refine x_cS1 (d' := 1) qX2_readNumber_32 cX2_111 rfl rfl (Nat.le_of_ble_eq_true rfl) (Nat.le_of_ble_eq_true rfl) (by decide) ?_
      refine c_X2_isFigure (pkc_le S1.1 q) (fun h32 => ?_) (fun h32 => ?_)
      · refine x_if_eq_f (tgt := 74) qX2_readNumber_35 (by omega) (by decide) ?_
        refine x_ildn qX2_readNumber_38 rfl ?_
        refine x_bipush (v := nI 10) qX2_readNumber_39 rfl ?_
        refine x_imul_n qX2_readNumber_41 ?_
        refine x_aldn qX2_readNumber_42 rfl trivial ?_
        refine x_getR qX2_readNumber_43 fX2_23 dd_9 rfl ?_
        refine x_aldn qX2_readNumber_46 rfl trivial ?_
        refine x_getIe qX2_readNumber_47 fX2_15 dd_9 S1.2.2.1 ?_
        refine x_cV1 (d' := 1) qX2_readNumber_50 cX2_44 dd_7 ⟨_, rfl, rfl⟩ rfl rfl (Nat.le_of_ble_eq_true rfl) (Nat.le_of_ble_eq_true rfl) (by decide) ?_
        refine c_bA S1.1 (by omega) ?_
        rw [bvI_lt (by omega)]
        refine x_iadd_n qX2_readNumber_53 ?_
        refine x_bipush (v := nI 48) qX2_readNumber_54 rfl ?_
        refine x_isub_n qX2_readNumber_56 (by omega) ?_
        refine x_ist2 qX2_readNumber_57 (by decide) rfl ?_
        refine x_aldn qX2_readNumber_58 rfl trivial ?_
        refine x_dup qX2_readNumber_59 rfl ?_
        refine x_getIe qX2_readNumber_60 fX2_15 dd_9 S1.2.2.1 ?_
        refine x_iconst (v := nI 1) qX2_readNumber_63 rfl ?_
        refine x_iadd_n qX2_readNumber_64 ?_
        refine x_putI qX2_readNumber_65 fX2_15 (Or.inl rfl) dd_9 ?_
        refine x_iinc3 qX2_readNumber_68 (by decide) (cm_inc _) rfl ?_
        refine x_goto (tgt := 9) qX2_readNumber_71 (by omega) ?_
        refine ih (i + 1) (q + 1) _ _ (by omega) (by omega) (by omega) (RS_mv S1 (pkc_lt (b := pk len tx q) rfl (by omega))) (fun p' x' I' e S2 F2 => hq p' x' I' (by rw [hd, if_pos h32]; exact e) S2 (FR_tr FR_9 F2))
      · refine x_if_eq_t (tgt := 74) qX2_readNumber_35 (by omega) (by decide) ?_
        refine x_ildn qX2_readNumber_74 rfl ?_
        refine x_iret qX2_readNumber_75 rfl rfl ?_
        exact hq q x I1 (by rw [hd, if_neg h32]) S1 FR_rfl
  refine x_aldn qX2_readNumber_0 rfl trivial ?_
  refine x_ldcS (i := 7) qX2_readNumber_1 rfl rfl ?_
  refine x_cV1 (d' := 5) qX2_readNumber_3 cX2_75 dd_9 ⟨_, rfl, rfl⟩ rfl rfl (Nat.le_of_ble_eq_true rfl) (Nat.le_of_ble_eq_true rfl) (by decide) ?_
  refine c_X2_readOneOf (i := 7) (by decide) S (fun j I2 e S2 F2 => ?_) (fun I2 e S2 F2 => ?_)
  · refine x_ist2 qX2_readNumber_6 (by decide) rfl ?_
    refine x_iconst (v := nI 1) qX2_readNumber_7 rfl ?_
    refine x_ist3 qX2_readNumber_8 (by decide) rfl ?_
    exact loop (m - 1) 1 (p + 1) j I2 (by omega) (by omega) rfl S2 (fun p' x' I' e' S3 F3 => hok p' x' I' (by unfold pNum; rw [pbd_eq e, e']) S3 (FR_tr F2 F3))
  · refine x_ist2 qX2_readNumber_6 (by decide) rfl ?_
    refine x_iconst (v := nI 1) qX2_readNumber_7 rfl ?_
    refine x_ist3 qX2_readNumber_8 (by decide) rfl ?_
    exact c_X2_readNumberF hm (by omega) S2 (hno p _ (by unfold pNum; rw [pbd_no e]) S2 F2)
theorem c_X2_readTest0 (S : RF h len tx p I) (hno : ∀ I', RF h len tx p I' → FR h I I' → Q none I' L (RR n (some (hA h)) tl) (DD n)) : cm_Ex l g 7 0 0 mX2_readTest 0 [.ref 9, .float 0, .float 0, .float 0] [] I L (RR n (some (hA h)) tl) (DD n) Q := by
  refine x_aldn qX2_readTest_0 rfl trivial ?_
  refine x_ldcS (i := 5) qX2_readTest_1 rfl rfl ?_
  refine x_cV1 (d' := 5) qX2_readTest_3 cX2_75 dd_9 ⟨_, rfl, rfl⟩ rfl rfl (Nat.le_of_ble_eq_true rfl) (Nat.le_of_ble_eq_true rfl) (by decide) ?_
  refine c_X2_readOneOf0 (i := 5) (by decide) S (fun I2 S2 F2 => ?_)
  refine x_ist1 qX2_readTest_6 (by decide) rfl ?_
  refine x_aldn qX2_readTest_7 rfl trivial ?_
  refine x_ldcS (i := 6) qX2_readTest_8 rfl rfl ?_
  refine x_cV1 (d' := 5) qX2_readTest_10 cX2_75 dd_9 ⟨_, rfl, rfl⟩ rfl rfl (Nat.le_of_ble_eq_true rfl) (Nat.le_of_ble_eq_true rfl) (by decide) ?_
  refine c_X2_readOneOf0 (i := 6) (by decide) S2 (fun I3 S3 F3 => ?_)
  refine x_ist2 qX2_readTest_13 (by decide) rfl ?_
  refine x_aldn qX2_readTest_14 rfl trivial ?_
  refine x_iconst (v := nI 2) qX2_readTest_15 rfl ?_
  refine x_cV1 (d' := 6) qX2_readTest_16 cX2_65 dd_9 ⟨_, rfl, rfl⟩ rfl rfl (Nat.le_of_ble_eq_true rfl) (Nat.le_of_ble_eq_true rfl) (by decide) ?_
  refine c_X2_readNumber0 (by decide) S3 (fun I4 S4 F4 => ?_)
  refine x_ist3 qX2_readTest_19 (by decide) rfl ?_
  refine x_aldn qX2_readTest_20 rfl trivial ?_
  refine x_getZe qX2_readTest_21 fX2_19 dd_9 S4.2.2.2.1 ?_
  refine x_if_eq_t (tgt := 37) qX2_readTest_24 (by omega) (by decide) ?_
  refine x_vret qX2_readTest_37 rfl ?_
  exact hno _ S4 (FR_tr F2 (FR_tr F3 F4))
theorem c_X2_readTest (hh : h < 7) (S : RS h len tx tk gl gv toks p I) (hok : ∀ p' x I', pTest (pk len tx) p = (p', some x) → RS h len tx tk gl gv (toks ++ [x]) p' I' → FR h I I' → Q none I' L (RR n (some (hA h)) tl) (DD n)) (hno : ∀ p' I', pTest (pk len tx) p = (p', none) → RF h len tx p' I' → FR h I I' → Q none I' L (RR n (some (hA h)) tl) (DD n)) : cm_Ex l g 7 0 0 mX2_readTest 0 [.ref 9, .float 0, .float 0, .float 0] [] I L (RR n (some (hA h)) tl) (DD n) Q := by
  have fin : ∀ q I1 a b c, RF h len tx q I1 → FR h I I1 → pTest (pk len tx) p = (q, none) → cm_Ex l g 7 0 0 mX2_readTest 20 [.ref 9, .int a, .int b, .int c] [] I1 L (RR n (some (hA h)) tl) (DD n) Q := by
    intro q I1 a b c S1 F1 e
    refine x_aldn qX2_readTest_20 rfl trivial ?_
    refine x_getZe qX2_readTest_21 fX2_19 dd_9 S1.2.2.2.1 ?_
    refine x_if_eq_t (tgt := 37) qX2_readTest_24 (by omega) (by decide) ?_
    refine x_vret qX2_readTest_37 rfl ?_
    exact hno _ _ e S1 F1
  refine x_aldn qX2_readTest_0 rfl trivial ?_
  refine x_ldcS (i := 5) qX2_readTest_1 rfl rfl ?_
  refine x_cV1 (d' := 5) qX2_readTest_3 cX2_75 dd_9 ⟨_, rfl, rfl⟩ rfl rfl (Nat.le_of_ble_eq_true rfl) (Nat.le_of_ble_eq_true rfl) (by decide) ?_
  refine c_X2_readOneOf (i := 5) (by decide) S (fun f I2 e1 S2 F2 => ?_) (fun I2 e1 S2 F2 => ?_)
  · refine x_ist1 qX2_readTest_6 (by decide) rfl ?_
    refine x_aldn qX2_readTest_7 rfl trivial ?_
    refine x_ldcS (i := 6) qX2_readTest_8 rfl rfl ?_
    refine x_cV1 (d' := 5) qX2_readTest_10 cX2_75 dd_9 ⟨_, rfl, rfl⟩ rfl rfl (Nat.le_of_ble_eq_true rfl) (Nat.le_of_ble_eq_true rfl) (by decide) ?_
    refine c_X2_readOneOf (i := 6) (by decide) S2 (fun s I3 e2 S3 F3 => ?_) (fun I3 e2 S3 F3 => ?_)
    · refine x_ist2 qX2_readTest_13 (by decide) rfl ?_
      refine x_aldn qX2_readTest_14 rfl trivial ?_
      refine x_iconst (v := nI 2) qX2_readTest_15 rfl ?_
      refine x_cV1 (d' := 6) qX2_readTest_16 cX2_65 dd_9 ⟨_, rfl, rfl⟩ rfl rfl (Nat.le_of_ble_eq_true rfl) (Nat.le_of_ble_eq_true rfl) (by decide) ?_
      refine c_X2_readNumber (by decide) S3 (fun p4 x I4 e3 S4 F4 => ?_) (fun p4 I4 e3 S4 F4 => ?_)
      · have b1 := (pOne_some (by decide) e1).2.2.1
        have b2 := (pOne_some (by decide) e2).2.2.1
        have b3 := pNum_some e3
        simp [tyn] at b1 b2 b3
        have ht : pTest (pk len tx) p = (p4, some (1000 * f + 100 * s + x)) := by
          unfold pTest
          rw [pbd_eq e1, pbd_eq e2, pbd_eq e3]
        have hl := S4.1.2.1
        have hp4 := S4.2.1
        have hlen := S3.2.2.2.2.1
        refine x_ist3 qX2_readTest_19 (by decide) rfl ?_
        refine x_aldn qX2_readTest_20 rfl trivial ?_
        refine x_getZe qX2_readTest_21 fX2_19 dd_9 S4.2.2.2.1 ?_
        refine x_if_eq_f (tgt := 37) qX2_readTest_24 (by omega) (by decide) ?_
        refine x_aldn qX2_readTest_27 rfl trivial ?_
        refine x_getR qX2_readTest_28 fX2_9 dd_9 rfl ?_
        refine x_ildn qX2_readTest_31 rfl ?_
        refine x_ildn qX2_readTest_32 rfl ?_
        refine x_ildn qX2_readTest_33 rfl ?_
        refine x_cV3 (d' := 2) qX2_readTest_34 cX2_106 (dd_hA hh).1 ⟨_, rfl, rfl⟩ rfl rfl (Nat.le_of_ble_eq_true rfl) (Nat.le_of_ble_eq_true rfl) (by decide) ?_
        refine c_X1_addTest hh b1 b2 b3.2.2 S4.2.2.2.2.2.2.2.1 (by omega) S4.2.2.2.2.2.2.2.2.2.1 ?_
        refine x_vret qX2_readTest_37 rfl ?_
        refine hok p4 _ _ ht ⟨TX_fr S4.1 FR_hs', hp4, ?_, ?_, by simp; omega, HC_test b1 b2 b3.2.2 S4.2.2.2.2.2⟩ (FR_tr F2 (FR_tr F3 (FR_tr F4 FR_hs')))
        all_goals first | (rw [cm_u_ne (by unfold hA; split <;> omega), cm_u_ne (by unfold hA; split <;> omega), cm_u_ne (by unfold hA; split <;> omega)]; first | exact S4.2.2.1 | exact S4.2.2.2.1)
      · refine x_ist3 qX2_readTest_19 (by decide) rfl ?_
        exact fin _ _ _ _ _ S4 (FR_tr F2 (FR_tr F3 F4)) (by unfold pTest; rw [pbd_eq e1, pbd_eq e2, pbd_no e3])
    · refine x_ist2 qX2_readTest_13 (by decide) rfl ?_
      refine x_aldn qX2_readTest_14 rfl trivial ?_
      refine x_iconst (v := nI 2) qX2_readTest_15 rfl ?_
      refine x_cV1 (d' := 6) qX2_readTest_16 cX2_65 dd_9 ⟨_, rfl, rfl⟩ rfl rfl (Nat.le_of_ble_eq_true rfl) (Nat.le_of_ble_eq_true rfl) (by decide) ?_
      refine c_X2_readNumber0 (by decide) S3 (fun I4 S4 F4 => ?_)
      refine x_ist3 qX2_readTest_19 (by decide) rfl ?_
      exact fin _ _ _ _ _ S4 (FR_tr F2 (FR_tr F3 F4)) (by unfold pTest; rw [pbd_eq e1, pbd_no e2])
  · refine x_ist1 qX2_readTest_6 (by decide) rfl ?_
    refine x_aldn qX2_readTest_7 rfl trivial ?_
    refine x_ldcS (i := 6) qX2_readTest_8 rfl rfl ?_
    refine x_cV1 (d' := 5) qX2_readTest_10 cX2_75 dd_9 ⟨_, rfl, rfl⟩ rfl rfl (Nat.le_of_ble_eq_true rfl) (Nat.le_of_ble_eq_true rfl) (by decide) ?_
    refine c_X2_readOneOf0 (i := 6) (by decide) S2 (fun I3 S3 F3 => ?_)
    refine x_ist2 qX2_readTest_13 (by decide) rfl ?_
    refine x_aldn qX2_readTest_14 rfl trivial ?_
    refine x_iconst (v := nI 2) qX2_readTest_15 rfl ?_
    refine x_cV1 (d' := 6) qX2_readTest_16 cX2_65 dd_9 ⟨_, rfl, rfl⟩ rfl rfl (Nat.le_of_ble_eq_true rfl) (Nat.le_of_ble_eq_true rfl) (by decide) ?_
    refine c_X2_readNumber0 (by decide) S3 (fun I4 S4 F4 => ?_)
    refine x_ist3 qX2_readTest_19 (by decide) rfl ?_
    exact fin _ _ _ _ _ S4 (FR_tr F2 (FR_tr F3 F4)) (by unfold pTest; rw [pbd_no e1])
end K13
