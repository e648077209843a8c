/-! HouseReader: clauses, the whole text -/
section RDR5
variable {h len p : Nat} {tx : Nat → Nat} {cs : List Cls} {I : cm_I}
theorem pWd_le : ∀ {w : List Nat} {p p' : Nat} {o : Option Unit}, (∀ b, b ∈ w → b < 256) → p ≤ len → pWd (pk len tx) w p = (p', o) → p ≤ p' ∧ p' ≤ len := by
  intro w
  induction w with
  | nil => intro p p' o _ hp e; cases e; exact ⟨Nat.le_refl _, hp⟩
  | cons b w ih =>
    intro p p' o hw hp e
    unfold pWd at e
    by_cases hc : pk len tx p = b
    · rw [if_pos hc] at e
      have := ih (fun x hx => hw x (by simp [hx])) (pkc_lt hc (hw b (by simp))) e
      omega
    · rw [if_neg hc] at e; cases e; exact ⟨Nat.le_refl _, hp⟩
end RDR5
section K16
variable {l : Launch} {g : cm_G} {I : cm_I} {L : cm_L} {n h len p : Nat} {tl : Option Nat} {Q : cm_Post} {tx : Nat → Nat} {cs : List Cls}
theorem c_X2_readTable0 {b : Int32} (S : RF h len tx p I) (hno : ∀ I', RF h len tx p I' → FR h I I' → Q none I' L (RR n (some (hA h)) tl) (DD n)) : cm_Ex l g 7 0 0 mX2_readTable 0 [.ref 9, .int b, .float 0, .float 0, .float 0] [] I L (RR n (some (hA h)) tl) (DD n) Q := by
  refine x_aldn qX2_readTable_0 rfl trivial ?_
  refine x_ldcS (i := 4) qX2_readTable_1 rfl rfl ?_
  refine x_cV1 (d' := 5) qX2_readTable_3 cX2_75 dd_9 ⟨_, rfl, rfl⟩ rfl rfl (Nat.le_of_ble_eq_true rfl) (Nat.le_of_ble_eq_true rfl) (by decide) ?_
  refine c_X2_readOneOf0 (i := 4) (by decide) S (fun I2 S2 F2 => ?_)
  refine x_ist2 qX2_readTable_6 (by decide) rfl ?_
  refine x_aldn qX2_readTable_7 rfl trivial ?_
  refine x_bipush (v := nI 32) qX2_readTable_8 rfl ?_
  refine x_cV1 (d' := 2) qX2_readTable_10 cX2_40 dd_9 ⟨_, rfl, rfl⟩ rfl rfl (Nat.le_of_ble_eq_true rfl) (Nat.le_of_ble_eq_true rfl) (by decide) ?_
  refine c_X2_readSign0 S2 (fun I3 S3 F3 => ?_)
  refine x_aldn qX2_readTable_13 rfl trivial ?_
  refine x_ldcS (i := 4) qX2_readTable_14 rfl rfl ?_
  refine x_cV1 (d' := 5) qX2_readTable_16 cX2_75 dd_9 ⟨_, rfl, rfl⟩ rfl rfl (Nat.le_of_ble_eq_true rfl) (Nat.le_of_ble_eq_true rfl) (by decide) ?_
  refine c_X2_readOneOf0 (i := 4) (by decide) S3 (fun I4 S4 F4 => ?_)
  refine x_ist3 qX2_readTable_19 (by decide) rfl ?_
  refine x_aldn qX2_readTable_20 rfl trivial ?_
  refine x_bipush (v := nI 32) qX2_readTable_21 rfl ?_
  refine x_cV1 (d' := 2) qX2_readTable_23 cX2_40 dd_9 ⟨_, rfl, rfl⟩ rfl rfl (Nat.le_of_ble_eq_true rfl) (Nat.le_of_ble_eq_true rfl) (by decide) ?_
  refine c_X2_readSign0 S4 (fun I5 S5 F5 => ?_)
  refine x_aldn qX2_readTable_26 rfl trivial ?_
  refine x_iconst (v := nI 3) qX2_readTable_27 rfl ?_
  refine x_cV1 (d' := 6) qX2_readTable_28 cX2_65 dd_9 ⟨_, rfl, rfl⟩ rfl rfl (Nat.le_of_ble_eq_true rfl) (Nat.le_of_ble_eq_true rfl) (by decide) ?_
  refine c_X2_readNumber0 (by decide) S5 (fun I6 S6 F6 => ?_)
  refine x_ist4 qX2_readTable_31 (by decide) rfl ?_
  refine x_aldn qX2_readTable_33 rfl trivial ?_
  refine x_getZe qX2_readTable_34 fX2_19 dd_9 S6.2.2.2.1 ?_
  refine x_if_ne_f (tgt := 41) qX2_readTable_37 (by omega) rfl ?_
  refine x_vret qX2_readTable_40 rfl ?_
  exact hno _ S6 (FR_tr F2 (FR_tr F3 (FR_tr F4 (FR_tr F5 F6))))
theorem c_X2_readTable {w : Nat} (hw : w < 2) (hh : h < 7) (S : RC h len tx cs p I) (hok : ∀ p' cl I', pTab (pk len tx) w p = (p', some cl) → RC h len tx (cs ++ [cl]) p' I' → FR h I I' → Q none I' L (RR n (some (hA h)) tl) (DD n)) (hno : ∀ p' I', pTab (pk len tx) w p = (p', none) → RF h len tx p' I' → FR h I I' → Q none I' L (RR n (some (hA h)) tl) (DD n)) : cm_Ex l g 7 0 0 mX2_readTable 0 [.ref 9, .int (nI (1 - w)), .float 0, .float 0, .float 0] [] I L (RR n (some (hA h)) tl) (DD n) Q := by
  have fin : ∀ q I1 a b c, RF h len tx q I1 → FR h I I1 → pTab (pk len tx) w p = (q, none) → cm_Ex l g 7 0 0 mX2_readTable 33 [.ref 9, .int (nI (1 - w)), .int a, .int b, .int c] [] I1 L (RR n (some (hA h)) tl) (DD n) Q := by
    intro q I1 a b c S1 F1 e
    refine x_aldn qX2_readTable_33 rfl trivial ?_
    refine x_getZe qX2_readTable_34 fX2_19 dd_9 S1.2.2.2.1 ?_
    refine x_if_ne_f (tgt := 41) qX2_readTable_37 (by omega) rfl ?_
    refine x_vret qX2_readTable_40 rfl ?_
    exact hno _ _ e S1 F1
  have fin5 : ∀ q I1 a b, RF h len tx q I1 → FR h I I1 → pTab (pk len tx) w p = (q, none) → cm_Ex l g 7 0 0 mX2_readTable 26 [.ref 9, .int (nI (1 - w)), .int a, .int b, .float 0] [] I1 L (RR n (some (hA h)) tl) (DD n) Q := by
    intro q I1 a b S1 F1 e
    refine x_aldn qX2_readTable_26 rfl trivial ?_
    refine x_iconst (v := nI 3) qX2_readTable_27 rfl ?_
    refine x_cV1 (d' := 6) qX2_readTable_28 cX2_65 dd_9 ⟨_, rfl, rfl⟩ rfl rfl (Nat.le_of_ble_eq_true rfl) (Nat.le_of_ble_eq_true rfl) (by decide) ?_
    refine c_X2_readNumber0 (by decide) S1 (fun I6 S6 F6 => ?_)
    refine x_ist4 qX2_readTable_31 (by decide) rfl ?_
    exact fin _ _ _ _ _ S6 (FR_tr F1 F6) e
  have fin4 : ∀ q I1 a b, RF h len tx q I1 → FR h I I1 → pTab (pk len tx) w p = (q, none) → cm_Ex l g 7 0 0 mX2_readTable 20 [.ref 9, .int (nI (1 - w)), .int a, .int b, .float 0] [] I1 L (RR n (some (hA h)) tl) (DD n) Q := by
    intro q I1 a b S1 F1 e
    refine x_aldn qX2_readTable_20 rfl trivial ?_
    refine x_bipush (v := nI 32) qX2_readTable_21 rfl ?_
    refine x_cV1 (d' := 2) qX2_readTable_23 cX2_40 dd_9 ⟨_, rfl, rfl⟩ rfl rfl (Nat.le_of_ble_eq_true rfl) (Nat.le_of_ble_eq_true rfl) (by decide) ?_
    refine c_X2_readSign0 S1 (fun I6 S6 F6 => ?_)
    exact fin5 _ _ _ _ S6 (FR_tr F1 F6) e
  have fin3 : ∀ q I1 a, RF h len tx q I1 → FR h I I1 → pTab (pk len tx) w p = (q, none) → cm_Ex l g 7 0 0 mX2_readTable 13 [.ref 9, .int (nI (1 - w)), .int a, .float 0, .float 0] [] I1 L (RR n (some (hA h)) tl) (DD n) Q := by
    intro q I1 a S1 F1 e
    refine x_aldn qX2_readTable_13 rfl trivial ?_
    refine x_ldcS (i := 4) qX2_readTable_14 rfl rfl ?_
    refine x_cV1 (d' := 5) qX2_readTable_16 cX2_75 dd_9 ⟨_, rfl, rfl⟩ rfl rfl (Nat.le_of_ble_eq_true rfl) (Nat.le_of_ble_eq_true rfl) (by decide) ?_
    refine c_X2_readOneOf0 (i := 4) (by decide) S1 (fun I6 S6 F6 => ?_)
    refine x_ist3 qX2_readTable_19 (by decide) rfl ?_
    exact fin4 _ _ _ _ S6 (FR_tr F1 F6) e
  have u1 : ∀ p1 a, pOne 4 (pk len tx) p = (p1, some a) → pTab (pk len tx) w p = pbd (pSg 32 (pk len tx) p1) fun p2 _ => pbd (pOne 4 (pk len tx) p2) fun p3 b => pbd (pSg 32 (pk len tx) p3) fun p4 _ => pbd (pNum (pk len tx) 3 p4) fun p5 x => (p5, some (w, 4 * a + b, x, [])) := fun p1 a e => by unfold pTab; rw [pbd_eq e]
  refine x_aldn qX2_readTable_0 rfl trivial ?_
  refine x_ldcS (i := 4) qX2_readTable_1 rfl rfl ?_
  refine x_cV1 (d' := 5) qX2_readTable_3 cX2_75 dd_9 ⟨_, rfl, rfl⟩ rfl rfl (Nat.le_of_ble_eq_true rfl) (Nat.le_of_ble_eq_true rfl) (by decide) ?_
  refine c_X2_readOneOf (i := 4) (by decide) S (fun a I2 e1 S2 F2 => ?_) (fun I2 e1 S2 F2 => ?_)
  · have e1' := u1 _ _ e1
    refine x_ist2 qX2_readTable_6 (by decide) rfl ?_
    refine x_aldn qX2_readTable_7 rfl trivial ?_
    refine x_bipush (v := nI 32) qX2_readTable_8 rfl ?_
    refine x_cV1 (d' := 2) qX2_readTable_10 cX2_40 dd_9 ⟨_, rfl, rfl⟩ rfl rfl (Nat.le_of_ble_eq_true rfl) (Nat.le_of_ble_eq_true rfl) (by decide) ?_
    refine c_X2_readSign (by omega) S2 (fun I3 e2 S3 F3 => ?_) (fun I3 e2 S3 F3 => ?_)
    · rw [pbd_eq e2] at e1'
      refine x_aldn qX2_readTable_13 rfl trivial ?_
      refine x_ldcS (i := 4) qX2_readTable_14 rfl rfl ?_
      refine x_cV1 (d' := 5) qX2_readTable_16 cX2_75 dd_9 ⟨_, rfl, rfl⟩ rfl rfl (Nat.le_of_ble_eq_true rfl) (Nat.le_of_ble_eq_true rfl) (by decide) ?_
      refine c_X2_readOneOf (i := 4) (by decide) S3 (fun b I4 e3 S4 F4 => ?_) (fun I4 e3 S4 F4 => ?_)
      · rw [pbd_eq e3] at e1'
        refine x_ist3 qX2_readTable_19 (by decide) rfl ?_
        refine x_aldn qX2_readTable_20 rfl trivial ?_
        refine x_bipush (v := nI 32) qX2_readTable_21 rfl ?_
        refine x_cV1 (d' := 2) qX2_readTable_23 cX2_40 dd_9 ⟨_, rfl, rfl⟩ rfl rfl (Nat.le_of_ble_eq_true rfl) (Nat.le_of_ble_eq_true rfl) (by decide) ?_
        refine c_X2_readSign (by omega) S4 (fun I5 e4 S5 F5 => ?_) (fun I5 e4 S5 F5 => ?_)
        · rw [pbd_eq e4] at e1'
          refine x_aldn qX2_readTable_26 rfl trivial ?_
          refine x_iconst (v := nI 3) qX2_readTable_27 rfl ?_
          refine x_cV1 (d' := 6) qX2_readTable_28 cX2_65 dd_9 ⟨_, rfl, rfl⟩ rfl rfl (Nat.le_of_ble_eq_true rfl) (Nat.le_of_ble_eq_true rfl) (by decide) ?_
          refine c_X2_readNumber (by decide) S5 (fun p6 x I6 e5 S6 F6 => ?_) (fun p6 I6 e5 S6 F6 => ?_)
          · rw [pbd_eq e5] at e1'
            have b1 := (pOne_some (by decide) e1).2.2.1
            have b2 := (pOne_some (by decide) e3).2.2.1
            simp [tyn] at b1 b2
            have FF := FR_tr F2 (FR_tr F3 (FR_tr F4 (FR_tr F5 F6)))
            refine x_ist4 qX2_readTable_31 (by decide) rfl ?_
            refine x_aldn qX2_readTable_33 rfl trivial ?_
            refine x_getZe qX2_readTable_34 fX2_19 dd_9 S6.2.2.2.1 ?_
            refine x_if_ne_t (tgt := 41) qX2_readTable_37 (by omega) (by decide) ?_
            rcases (by omega : w = 0 ∨ w = 1) with rfl | rfl
            · have R := RC_take (x := x) S6 b1 b2
              refine x_ildn qX2_readTable_41 rfl ?_
              refine x_if_eq_f (tgt := 59) qX2_readTable_42 (by omega) (by decide) ?_
              refine x_aldn qX2_readTable_45 rfl trivial ?_
              refine x_getR qX2_readTable_46 fX2_9 dd_9 rfl ?_
              refine x_ildn qX2_readTable_49 rfl ?_
              refine x_ildn qX2_readTable_50 rfl ?_
              refine x_ild qX2_readTable_51 rfl ?_
              refine x_cV3 (d' := 2) qX2_readTable_53 cX2_79 (dd_hA hh).1 ⟨_, rfl, rfl⟩ rfl rfl (Nat.le_of_ble_eq_true rfl) (Nat.le_of_ble_eq_true rfl) (by decide) ?_
              refine c_X1_setTake hh b1 b2 ?_
              refine x_goto (tgt := 70) qX2_readTable_56 (by omega) ?_
              refine x_vret qX2_readTable_70 rfl ?_
              exact hok _ _ _ e1' R.1 (FR_tr FF R.2)
            · have R := RC_glad (x := x) S6 b1 b2
              refine x_ildn qX2_readTable_41 rfl ?_
              refine x_if_eq_t (tgt := 59) qX2_readTable_42 (by omega) (by decide) ?_
              refine x_aldn qX2_readTable_59 rfl trivial ?_
              refine x_getR qX2_readTable_60 fX2_9 dd_9 rfl ?_
              refine x_ildn qX2_readTable_63 rfl ?_
              refine x_ildn qX2_readTable_64 rfl ?_
              refine x_ild qX2_readTable_65 rfl ?_
              refine x_cV3 (d' := 2) qX2_readTable_67 cX2_83 (dd_hA hh).1 ⟨_, rfl, rfl⟩ rfl rfl (Nat.le_of_ble_eq_true rfl) (Nat.le_of_ble_eq_true rfl) (by decide) ?_
              refine c_X1_setGlad hh b1 b2 ?_
              refine x_vret qX2_readTable_70 rfl ?_
              exact hok _ _ _ e1' R.1 (FR_tr FF R.2)
          · rw [pbd_no e5] at e1'
            refine x_ist4 qX2_readTable_31 (by decide) rfl ?_
            exact fin _ _ _ _ _ S6 (FR_tr F2 (FR_tr F3 (FR_tr F4 (FR_tr F5 F6)))) e1'
        · rw [pbd_no e4] at e1'
          exact fin5 _ _ _ _ S5 (FR_tr F2 (FR_tr F3 (FR_tr F4 F5))) e1'
      · rw [pbd_no e3] at e1'
        refine x_ist3 qX2_readTable_19 (by decide) rfl ?_
        exact fin4 _ _ _ _ S4 (FR_tr F2 (FR_tr F3 F4)) e1'
    · rw [pbd_no e2] at e1'
      exact fin3 _ _ _ S3 (FR_tr F2 F3) e1'
  · refine x_ist2 qX2_readTable_6 (by decide) rfl ?_
    refine x_aldn qX2_readTable_7 rfl trivial ?_
    refine x_bipush (v := nI 32) qX2_readTable_8 rfl ?_
    refine x_cV1 (d' := 2) qX2_readTable_10 cX2_40 dd_9 ⟨_, rfl, rfl⟩ rfl rfl (Nat.le_of_ble_eq_true rfl) (Nat.le_of_ble_eq_true rfl) (by decide) ?_
    refine c_X2_readSign0 S2 (fun I3 S3 F3 => ?_)
    exact fin3 _ _ _ S3 (FR_tr F2 F3) (by unfold pTab; rw [pbd_no e1])
theorem c_X2_readClause (hh : h < 7) (S : RC h len tx cs p I) (hok : ∀ p' cl I', pCl (pk len tx) p = (p', some cl) → RC h len tx (cs ++ [cl]) p' I' → FR h I I' → Q none I' L (RR n (some (hA h)) tl) (DD n)) (hno : ∀ p' I', pCl (pk len tx) p = (p', none) → RF h len tx p' I' → FR h I I' → Q none I' L (RR n (some (hA h)) tl) (DD n)) : cm_Ex l g 27 0 0 mX2_readClause 0 [.ref 9, .float 0, .float 0] [] I L (RR n (some (hA h)) tl) (DD n) Q := by
  have hl := S.1.2.1
  have hp := S.2.1
  have b1 := bvI_eq _ (pkc_le S.1 p) 98 (by omega)
  have b2 := bvI_eq _ (pkc_le S.1 p) 103 (by omega)
  have b3 := bvI_eq _ (pkc_le S.1 (p + 1)) 108 (by omega)
  by_cases c1 : pk len tx p = 98
  · have e0 : pCl (pk len tx) p = pbd (pWd (pk len tx) (tyn 0) p) fun p1 _ => pbd (pEf (pS (pk len tx) 4) (pk len tx) p1) fun p2 t => (p2, some (2, 0, 0, t)) := if_pos c1
    refine x_aldn qX2_readClause_0 rfl trivial ?_
    refine x_getR qX2_readClause_1 fX2_23 dd_9 rfl ?_
    refine x_aldn qX2_readClause_4 rfl trivial ?_
    refine x_getIe qX2_readClause_5 fX2_15 dd_9 S.2.2.1 ?_
    refine x_cV1 (d' := 1) qX2_readClause_8 cX2_44 dd_7 ⟨_, rfl, rfl⟩ rfl rfl (Nat.le_of_ble_eq_true rfl) (Nat.le_of_ble_eq_true rfl) (by omega) ?_
    refine c_bA S.1 (by omega) ?_
    refine x_ist1 qX2_readClause_11 (by decide) rfl ?_
    refine x_ildn qX2_readClause_12 rfl ?_
    refine x_bipush (v := nI 98) qX2_readClause_13 rfl ?_
    refine x_icmp_ne_f (tgt := 32) qX2_readClause_15 (by omega) (b1.mpr c1) ?_
    refine x_aldn qX2_readClause_18 rfl trivial ?_
    refine x_ldcS (i := 0) qX2_readClause_19 rfl rfl ?_
    refine x_cV1 (d' := 5) qX2_readClause_21 cX2_50 dd_9 ⟨_, rfl, rfl⟩ rfl rfl (Nat.le_of_ble_eq_true rfl) (Nat.le_of_ble_eq_true rfl) (by omega) ?_
    refine c_X2_readWord (i := 0) (by decide) S (fun p1 I2 e1 S2 F2 => ?_) (fun p1 I2 e1 S2 F2 => ?_)
    · rw [pbd_eq e1] at e0
      refine x_aldn qX2_readClause_24 rfl trivial ?_
      refine x_iconst (v := nI 0) qX2_readClause_25 rfl ?_
      refine x_cV1 (d' := 26) qX2_readClause_26 cX2_54 dd_9 ⟨_, rfl, rfl⟩ rfl rfl (Nat.le_of_ble_eq_true rfl) (Nat.le_of_ble_eq_true rfl) (by omega) ?_
      refine rd_bar hh _ _ _ _ S2 (fun p2 ts I3 e2 S3 F3 => ?_) (fun p2 I3 e2 S3 F3 => ?_)
      · refine x_goto (tgt := 127) qX2_readClause_29 (by omega) ?_
        refine x_vret qX2_readClause_127 rfl ?_
        rw [pbd_eq e2] at e0
        exact hok _ _ _ e0 (RC_bar S3) (FR_tr F2 F3)
      · refine x_goto (tgt := 127) qX2_readClause_29 (by omega) ?_
        refine x_vret qX2_readClause_127 rfl ?_
        rw [pbd_no e2] at e0
        exact hno _ _ e0 S3 (FR_tr F2 F3)
    · rw [pbd_no e1] at e0
      refine x_aldn qX2_readClause_24 rfl trivial ?_
      refine x_iconst (v := nI 0) qX2_readClause_25 rfl ?_
      refine x_cV1 (d' := 26) qX2_readClause_26 cX2_54 dd_9 ⟨_, rfl, rfl⟩ rfl rfl (Nat.le_of_ble_eq_true rfl) (Nat.le_of_ble_eq_true rfl) (by omega) ?_
      refine cm_up (c_X2_readEither0 S2 (fun I3 S3 F3 => ?_)) (by omega) (by omega) (by omega)
      refine x_goto (tgt := 127) qX2_readClause_29 (by omega) ?_
      refine x_vret qX2_readClause_127 rfl ?_
      exact hno _ _ e0 S3 (FR_tr F2 F3)
  · by_cases c2 : pk len tx p = 103
    · by_cases c3 : pk len tx (p + 1) = 108
      · have e0 : pCl (pk len tx) p = pbd (pWd (pk len tx) (tyn 1) p) fun p1 _ => pTab (pk len tx) 1 p1 := by unfold pCl; rw [if_neg c1, if_pos ⟨c2, c3⟩]
        refine x_aldn qX2_readClause_0 rfl trivial ?_
        refine x_getR qX2_readClause_1 fX2_23 dd_9 rfl ?_
        refine x_aldn qX2_readClause_4 rfl trivial ?_
        refine x_getIe qX2_readClause_5 fX2_15 dd_9 S.2.2.1 ?_
        refine x_cV1 (d' := 1) qX2_readClause_8 cX2_44 dd_7 ⟨_, rfl, rfl⟩ rfl rfl (Nat.le_of_ble_eq_true rfl) (Nat.le_of_ble_eq_true rfl) (by omega) ?_
        refine c_bA S.1 (by omega) ?_
        refine x_ist1 qX2_readClause_11 (by decide) rfl ?_
        refine x_ildn qX2_readClause_12 rfl ?_
        refine x_bipush (v := nI 98) qX2_readClause_13 rfl ?_
        refine x_icmp_ne_t (tgt := 32) qX2_readClause_15 (by omega) (fun e => c1 (b1.mp e)) ?_
        refine x_ildn qX2_readClause_32 rfl ?_
        refine x_bipush (v := nI 103) qX2_readClause_33 rfl ?_
        refine x_icmp_ne_f (tgt := 70) qX2_readClause_35 (by omega) (b2.mpr c2) ?_
        refine x_aldn qX2_readClause_38 rfl trivial ?_
        refine x_getR qX2_readClause_39 fX2_23 dd_9 rfl ?_
        refine x_aldn qX2_readClause_42 rfl trivial ?_
        refine x_getIe qX2_readClause_43 fX2_15 dd_9 S.2.2.1 ?_
        refine x_iconst (v := nI 1) qX2_readClause_46 rfl ?_
        refine x_iadd_n qX2_readClause_47 ?_
        refine x_cV1 (d' := 1) qX2_readClause_48 cX2_44 dd_7 ⟨_, rfl, rfl⟩ rfl rfl (Nat.le_of_ble_eq_true rfl) (Nat.le_of_ble_eq_true rfl) (by omega) ?_
        refine c_bA S.1 (by omega) ?_
        refine x_bipush (v := nI 108) qX2_readClause_51 rfl ?_
        refine x_icmp_ne_f (tgt := 70) qX2_readClause_53 (by omega) (b3.mpr c3) ?_
        refine x_aldn qX2_readClause_56 rfl trivial ?_
        refine x_ldcS (i := 1) qX2_readClause_57 rfl rfl ?_
        refine x_cV1 (d' := 5) qX2_readClause_59 cX2_50 dd_9 ⟨_, rfl, rfl⟩ rfl rfl (Nat.le_of_ble_eq_true rfl) (Nat.le_of_ble_eq_true rfl) (by omega) ?_
        refine c_X2_readWord (i := 1) (by decide) S (fun p1 I2 e1 S2 F2 => ?_) (fun p1 I2 e1 S2 F2 => ?_)
        · rw [pbd_eq e1] at e0
          refine x_aldn qX2_readClause_62 rfl trivial ?_
          refine x_iconst (v := nI 0) qX2_readClause_63 rfl ?_
          refine x_cV1 (d' := 7) qX2_readClause_64 cX2_59 dd_9 ⟨_, rfl, rfl⟩ rfl rfl (Nat.le_of_ble_eq_true rfl) (Nat.le_of_ble_eq_true rfl) (by omega) ?_
          refine c_X2_readTable (w := 1) (by omega) hh S2 (fun p2 cl I3 e2 S3 F3 => ?_) (fun p2 I3 e2 S3 F3 => ?_)
          · refine x_goto (tgt := 127) qX2_readClause_67 (by omega) ?_
            refine x_vret qX2_readClause_127 rfl ?_
            exact hok _ _ _ (e0.trans e2) S3 (FR_tr F2 F3)
          · refine x_goto (tgt := 127) qX2_readClause_67 (by omega) ?_
            refine x_vret qX2_readClause_127 rfl ?_
            exact hno _ _ (e0.trans e2) S3 (FR_tr F2 F3)
        · rw [pbd_no e1] at e0
          refine x_aldn qX2_readClause_62 rfl trivial ?_
          refine x_iconst (v := nI 0) qX2_readClause_63 rfl ?_
          refine x_cV1 (d' := 7) qX2_readClause_64 cX2_59 dd_9 ⟨_, rfl, rfl⟩ rfl rfl (Nat.le_of_ble_eq_true rfl) (Nat.le_of_ble_eq_true rfl) (by omega) ?_
          refine c_X2_readTable0 S2 (fun I3 S3 F3 => ?_)
          refine x_goto (tgt := 127) qX2_readClause_67 (by omega) ?_
          refine x_vret qX2_readClause_127 rfl ?_
          exact hno _ _ e0 S3 (FR_tr F2 F3)
      · have e0 : pCl (pk len tx) p = pbd (pWd (pk len tx) (tyn 2) p) fun p1 _ => pbd (pNum (pk len tx) 3 p1) fun p2 x => (p2, some (3, 0, x, [])) := by unfold pCl; rw [if_neg c1, if_neg (fun e => c3 e.2), if_pos c2]
        refine x_aldn qX2_readClause_0 rfl trivial ?_
        refine x_getR qX2_readClause_1 fX2_23 dd_9 rfl ?_
        refine x_aldn qX2_readClause_4 rfl trivial ?_
        refine x_getIe qX2_readClause_5 fX2_15 dd_9 S.2.2.1 ?_
        refine x_cV1 (d' := 1) qX2_readClause_8 cX2_44 dd_7 ⟨_, rfl, rfl⟩ rfl rfl (Nat.le_of_ble_eq_true rfl) (Nat.le_of_ble_eq_true rfl) (by omega) ?_
        refine c_bA S.1 (by omega) ?_
        refine x_ist1 qX2_readClause_11 (by decide) rfl ?_
        refine x_ildn qX2_readClause_12 rfl ?_
        refine x_bipush (v := nI 98) qX2_readClause_13 rfl ?_
        refine x_icmp_ne_t (tgt := 32) qX2_readClause_15 (by omega) (fun e => c1 (b1.mp e)) ?_
        refine x_ildn qX2_readClause_32 rfl ?_
        refine x_bipush (v := nI 103) qX2_readClause_33 rfl ?_
        refine x_icmp_ne_f (tgt := 70) qX2_readClause_35 (by omega) (b2.mpr c2) ?_
        refine x_aldn qX2_readClause_38 rfl trivial ?_
        refine x_getR qX2_readClause_39 fX2_23 dd_9 rfl ?_
        refine x_aldn qX2_readClause_42 rfl trivial ?_
        refine x_getIe qX2_readClause_43 fX2_15 dd_9 S.2.2.1 ?_
        refine x_iconst (v := nI 1) qX2_readClause_46 rfl ?_
        refine x_iadd_n qX2_readClause_47 ?_
        refine x_cV1 (d' := 1) qX2_readClause_48 cX2_44 dd_7 ⟨_, rfl, rfl⟩ rfl rfl (Nat.le_of_ble_eq_true rfl) (Nat.le_of_ble_eq_true rfl) (by omega) ?_
        refine c_bA S.1 (by omega) ?_
        refine x_bipush (v := nI 108) qX2_readClause_51 rfl ?_
        refine x_icmp_ne_t (tgt := 70) qX2_readClause_53 (by omega) (fun e => c3 (b3.mp e)) ?_
        refine x_ildn qX2_readClause_70 rfl ?_
        refine x_bipush (v := nI 103) qX2_readClause_71 rfl ?_
        refine x_icmp_ne_f (tgt := 116) qX2_readClause_73 (by omega) (b2.mpr c2) ?_
        refine x_aldn qX2_readClause_76 rfl trivial ?_
        refine x_ldcS (i := 2) qX2_readClause_77 rfl rfl ?_
        refine x_cV1 (d' := 5) qX2_readClause_79 cX2_50 dd_9 ⟨_, rfl, rfl⟩ rfl rfl (Nat.le_of_ble_eq_true rfl) (Nat.le_of_ble_eq_true rfl) (by omega) ?_
        refine c_X2_readWord (i := 2) (by decide) S (fun p1 I2 e1 S2 F2 => ?_) (fun p1 I2 e1 S2 F2 => ?_)
        · rw [pbd_eq e1] at e0
          refine x_aldn qX2_readClause_82 rfl trivial ?_
          refine x_iconst (v := nI 3) qX2_readClause_83 rfl ?_
          refine x_cV1 (d' := 6) qX2_readClause_84 cX2_65 dd_9 ⟨_, rfl, rfl⟩ rfl rfl (Nat.le_of_ble_eq_true rfl) (Nat.le_of_ble_eq_true rfl) (by omega) ?_
          refine c_X2_readNumber (by decide) S2 (fun p2 x I3 e2 S3 F3 => ?_) (fun p2 I3 e2 S3 F3 => ?_)
          · rw [pbd_eq e2] at e0
            refine x_ist2 qX2_readClause_87 (by decide) rfl ?_
            refine x_aldn qX2_readClause_88 rfl trivial ?_
            refine x_getR qX2_readClause_89 fX2_9 dd_9 rfl ?_
            refine x_aldn qX2_readClause_92 rfl trivial ?_
            refine x_getZe qX2_readClause_93 fX2_19 dd_9 S3.2.2.2.1 ?_
            refine x_if_eq_f (tgt := 103) qX2_readClause_96 (by omega) (by decide) ?_
            refine x_ildn qX2_readClause_99 rfl ?_
            refine x_goto (tgt := 110) qX2_readClause_100 (by omega) ?_
            refine x_putI qX2_readClause_110 fX2_68 (Or.inl rfl) (dd_hA hh).1 ?_
            refine x_goto (tgt := 127) qX2_readClause_113 (by omega) ?_
            refine x_vret qX2_readClause_127 rfl ?_
            exact hok _ _ _ e0 (RC_give S3) (FR_tr F2 (FR_tr F3 FR_h5))
          · rw [pbd_no e2] at e0
            refine x_ist2 qX2_readClause_87 (by decide) rfl ?_
            refine x_aldn qX2_readClause_88 rfl trivial ?_
            refine x_getR qX2_readClause_89 fX2_9 dd_9 rfl ?_
            refine x_aldn qX2_readClause_92 rfl trivial ?_
            refine x_getZe qX2_readClause_93 fX2_19 dd_9 S3.2.2.2.1 ?_
            refine x_if_eq_t (tgt := 103) qX2_readClause_96 (by omega) (by decide) ?_
            refine x_aldn qX2_readClause_103 rfl trivial ?_
            refine x_getR qX2_readClause_104 fX2_9 dd_9 rfl ?_
            refine x_getI qX2_readClause_107 fX2_68 (dd_hA hh).1 ?_
            refine x_putI qX2_readClause_110 fX2_68 (Or.inl rfl) (dd_hA hh).1 ?_
            refine x_goto (tgt := 127) qX2_readClause_113 (by omega) ?_
            refine x_vret qX2_readClause_127 rfl ?_
            exact hno _ _ e0 (RF_h5 S3) (FR_tr F2 (FR_tr F3 FR_h5))
        · rw [pbd_no e1] at e0
          refine x_aldn qX2_readClause_82 rfl trivial ?_
          refine x_iconst (v := nI 3) qX2_readClause_83 rfl ?_
          refine x_cV1 (d' := 6) qX2_readClause_84 cX2_65 dd_9 ⟨_, rfl, rfl⟩ rfl rfl (Nat.le_of_ble_eq_true rfl) (Nat.le_of_ble_eq_true rfl) (by omega) ?_
          refine c_X2_readNumber0 (by decide) S2 (fun I3 S3 F3 => ?_)
          refine x_ist2 qX2_readClause_87 (by decide) rfl ?_
          refine x_aldn qX2_readClause_88 rfl trivial ?_
          refine x_getR qX2_readClause_89 fX2_9 dd_9 rfl ?_
          refine x_aldn qX2_readClause_92 rfl trivial ?_
          refine x_getZe qX2_readClause_93 fX2_19 dd_9 S3.2.2.2.1 ?_
          refine x_if_eq_t (tgt := 103) qX2_readClause_96 (by omega) (by decide) ?_
          refine x_aldn qX2_readClause_103 rfl trivial ?_
          refine x_getR qX2_readClause_104 fX2_9 dd_9 rfl ?_
          refine x_getI qX2_readClause_107 fX2_68 (dd_hA hh).1 ?_
          refine x_putI qX2_readClause_110 fX2_68 (Or.inl rfl) (dd_hA hh).1 ?_
          refine x_goto (tgt := 127) qX2_readClause_113 (by omega) ?_
          refine x_vret qX2_readClause_127 rfl ?_
          exact hno _ _ e0 (RF_h5 S3) (FR_tr F2 (FR_tr F3 FR_h5))
    · have e0 : pCl (pk len tx) p = pbd (pWd (pk len tx) (tyn 3) p) fun p1 _ => pTab (pk len tx) 0 p1 := by unfold pCl; rw [if_neg c1, if_neg (fun e => c2 e.1), if_neg c2]
      refine x_aldn qX2_readClause_0 rfl trivial ?_
      refine x_getR qX2_readClause_1 fX2_23 dd_9 rfl ?_
      refine x_aldn qX2_readClause_4 rfl trivial ?_
      refine x_getIe qX2_readClause_5 fX2_15 dd_9 S.2.2.1 ?_
      refine x_cV1 (d' := 1) qX2_readClause_8 cX2_44 dd_7 ⟨_, rfl, rfl⟩ rfl rfl (Nat.le_of_ble_eq_true rfl) (Nat.le_of_ble_eq_true rfl) (by omega) ?_
      refine c_bA S.1 (by omega) ?_
      refine x_ist1 qX2_readClause_11 (by decide) rfl ?_
      refine x_ildn qX2_readClause_12 rfl ?_
      refine x_bipush (v := nI 98) qX2_readClause_13 rfl ?_
      refine x_icmp_ne_t (tgt := 32) qX2_readClause_15 (by omega) (fun e => c1 (b1.mp e)) ?_
      refine x_ildn qX2_readClause_32 rfl ?_
      refine x_bipush (v := nI 103) qX2_readClause_33 rfl ?_
      refine x_icmp_ne_t (tgt := 70) qX2_readClause_35 (by omega) (fun e => c2 (b2.mp e)) ?_
      refine x_ildn qX2_readClause_70 rfl ?_
      refine x_bipush (v := nI 103) qX2_readClause_71 rfl ?_
      refine x_icmp_ne_t (tgt := 116) qX2_readClause_73 (by omega) (fun e => c2 (b2.mp e)) ?_
      refine x_aldn qX2_readClause_116 rfl trivial ?_
      refine x_ldcS (i := 3) qX2_readClause_117 rfl rfl ?_
      refine x_cV1 (d' := 5) qX2_readClause_119 cX2_50 dd_9 ⟨_, rfl, rfl⟩ rfl rfl (Nat.le_of_ble_eq_true rfl) (Nat.le_of_ble_eq_true rfl) (by omega) ?_
      refine c_X2_readWord (i := 3) (by decide) S (fun p1 I2 e1 S2 F2 => ?_) (fun p1 I2 e1 S2 F2 => ?_)
      · rw [pbd_eq e1] at e0
        refine x_aldn qX2_readClause_122 rfl trivial ?_
        refine x_iconst (v := nI 1) qX2_readClause_123 rfl ?_
        refine x_cV1 (d' := 7) qX2_readClause_124 cX2_59 dd_9 ⟨_, rfl, rfl⟩ rfl rfl (Nat.le_of_ble_eq_true rfl) (Nat.le_of_ble_eq_true rfl) (by omega) ?_
        refine c_X2_readTable (w := 0) (by omega) hh S2 (fun p2 cl I3 e2 S3 F3 => ?_) (fun p2 I3 e2 S3 F3 => ?_)
        · refine x_vret qX2_readClause_127 rfl ?_
          exact hok _ _ _ (e0.trans e2) S3 (FR_tr F2 F3)
        · refine x_vret qX2_readClause_127 rfl ?_
          exact hno _ _ (e0.trans e2) S3 (FR_tr F2 F3)
      · rw [pbd_no e1] at e0
        refine x_aldn qX2_readClause_122 rfl trivial ?_
        refine x_iconst (v := nI 1) qX2_readClause_123 rfl ?_
        refine x_cV1 (d' := 7) qX2_readClause_124 cX2_59 dd_9 ⟨_, rfl, rfl⟩ rfl rfl (Nat.le_of_ble_eq_true rfl) (Nat.le_of_ble_eq_true rfl) (by omega) ?_
        refine c_X2_readTable0 S2 (fun I3 S3 F3 => ?_)
        refine x_vret qX2_readClause_127 rfl ?_
        exact hno _ _ e0 S3 (FR_tr F2 F3)
end K16
