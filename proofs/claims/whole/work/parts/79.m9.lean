/-! the reference: image, undo, acts, trace, taken, count -/
def FM (I I' : cm_I) : Prop := (∀ b, b ≠ 73 → b ≠ 101 → I' b = I b) ∧ (∀ k, k ≠ 39 → I' 73 k = I 73 k)
theorem FM_rfl {I : cm_I} : FM I I := ⟨fun _ _ _ => rfl, fun _ _ => rfl⟩
theorem FM_tr {I I' I'' : cm_I} (a : FM I I') (b : FM I' I'') : FM I I'' := ⟨fun x h1 h2 => (b.1 x h1 h2).trans (a.1 x h1 h2), fun k h => (b.2 k h).trans (a.2 k h)⟩
theorem MTR_add {s : List Nat} {I : cm_I} {b : Nat} (h : MTR s I) : MTR (s ++ [b]) (cm_u (if s.length < 20 then cm_u I 101 s.length (nI b) else I) 73 39 (nI (s.length + 1))) := by
  obtain ⟨h1, h2⟩ := h
  refine ⟨?_, fun i hi h20 => ?_⟩
  · rw [rdE, List.length_append]; rfl
  · rw [List.length_append] at hi
    have hi2 : i < s.length + 1 := hi
    rw [rdB (by decide)]
    by_cases e : i = s.length
    · subst e
      rw [if_pos h20, rdE, List.getD_eq_getElem?_getD, List.getElem?_append_right (Nat.le_refl _), Nat.sub_self]; rfl
    · have e2 : (if s.length < 20 then cm_u I 101 s.length (nI b) else I) 101 i = I 101 i := by
        split
        · exact rdK e
        · rfl
      rw [e2, h2 i (by omega) h20, List.getD_eq_getElem?_getD, List.getD_eq_getElem?_getD, List.getElem?_append_left (by omega)]
def rtA (i m j : Nat) (x : Int32) : Int32 × List Nat := if j = 2 then (x * nI 3 + nI i, [30, 10]) else if j = 4 then (-(x + nI i), [50, 10]) else if j = 6 then ((x + nI i) ^^^ nI m, [71, 10]) else (x + nI i, [10])
def pfA (i m j : Nat) (x : Int32) : Int32 × List Nat := ((rtA i m j x).1 - nI m, 11 :: (rtA i m j x).2)
def sfA (i m j : Nat) (x : Int32) : Int32 × List Nat := ((pfA i m j x).1 ^^^ nI 6, 20 :: (pfA i m j x).2)
def rfA (i m j : Nat) (x : Int32) : Int32 × List Nat := if j = 1 then sfA i m j x else if j = 4 then ((sfA i m j (x + nI 1)).1, 51 :: (sfA i m j (x + nI 1)).2) else if j = 6 then ((pfA i m j x).1 + (nI 2 + nI i), 70 :: (pfA i m j x).2 ++ [10]) else pfA i m j x
def ptA (i m j : Nat) (x : Int32) : Int32 × List Nat := ((rfA i m j x).1 * nI 2, 12 :: (rfA i m j x).2)
def rlA (i m j : Nat) (x : Int32) : Int32 × List Nat := if j = 3 then ((ptA i m j x).1 + (rfA i m j (nI 1)).1, 40 :: (ptA i m j x).2 ++ (rfA i m j (nI 1)).2) else if j = 5 ∨ j = 6 then ((ptA i m j (x - nI i)).1, 60 :: (ptA i m j (x - nI i)).2) else ptA i m j x
theorem evl_r {i m j : Nat} {x : Int32} (hj : j < 7) : evl i m j 8 j 0 x = rtA i m j x ∧ evl i m j 8 j 1 x = rfA i m j x ∧ evl i m j 8 j 2 x = rlA i m j x := by
  rcases (by omega : j = 0 ∨ j = 1 ∨ j = 2 ∨ j = 3 ∨ j = 4 ∨ j = 5 ∨ j = 6) with rfl | rfl | rfl | rfl | rfl | rfl | rfl <;> exact ⟨rfl, rfl, rfl⟩
theorem rtA_len {i m j : Nat} {x : Int32} : (rtA i m j x).2.length ≤ 2 := by
  unfold rtA
  repeat' split
  all_goals simp
theorem pfA_len {i m j : Nat} {x : Int32} : (pfA i m j x).2.length ≤ 3 := by
  have := @rtA_len i m j x
  show (rtA i m j x).2.length + 1 ≤ 3
  omega
theorem sfA_len {i m j : Nat} {x : Int32} : (sfA i m j x).2.length ≤ 4 := by
  have := @pfA_len i m j x
  show (pfA i m j x).2.length + 1 ≤ 4
  omega
theorem rfA_len {i m j : Nat} {x : Int32} : (rfA i m j x).2.length ≤ 5 := by
  have h1 := @pfA_len i m j x
  have h2 := @sfA_len i m j x
  have h3 := @sfA_len i m j (x + nI 1)
  unfold rfA
  repeat' split
  all_goals first | omega | (simp only [List.length_cons, List.length_append, List.length_nil]; omega)
theorem ptA_len {i m j : Nat} {x : Int32} : (ptA i m j x).2.length ≤ 6 := by
  have := @rfA_len i m j x
  show (rfA i m j x).2.length + 1 ≤ 6
  omega
def AH (t m j : Nat) (I : cm_I) : Prop := I 74 t = nI j ∧ I 75 t = nI m ∧ t < 4 ∧ j < 7
theorem AH_fr {t m j : Nat} {I I' : cm_I} (A : AH t m j I) (F : FM I I') : AH t m j I' := ⟨by rw [F.1 74 (by decide) (by decide)]; exact A.1, by rw [F.1 75 (by decide) (by decide)]; exact A.2.1, A.2.2⟩
section M9
variable {l : Launch} {g : cm_G} {I : cm_I} {L : cm_L} {hr tl : Option Nat} {Q : cm_Post} {u : Nat} {n : Nat} {kd mm : Nat → Nat} {len : Nat} {tx : Nat → Nat} {hs : List (List Cls)} {hx c1 : Nat} {w1 : Nat → Nat} {c2 : Nat} {w2 : Nat → Nat} {im : IM} {s : List Nat} {tp : TP}
variable {t m j : Nat} {x : Int32}
theorem c_X12_body {b : Nat} (T : MTR s I) (hs : s.length < 1000) (hQ : ∀ I', MTR (s ++ [b]) I' → FM I I' → Q none I' L (RR u hr tl) (DD u)) : cm_Ex l g 1 0 0 mX12_body 0 [.ref 73, .int (nI b)] [] I L (RR u hr tl) (DD u) Q := by
  have hA := MTR_add (b := b) T
  refine x_aldn qX12_body_0 rfl trivial ?_
  refine x_getIe qX12_body_1 fX12_130 rfl T.1 ?_
  refine x_bipush (v := nI 20) qX12_body_4 rfl ?_
  refine x_icmp_ge_n (tgt := 19) qX12_body_6 (by omega) (by omega) (by omega) (fun h => ?_) (fun h => ?_)
  · rw [if_neg (by omega)] at hA
    refine x_aldn qX12_body_19 rfl trivial ?_
    refine x_dup qX12_body_20 rfl ?_
    refine x_getIe qX12_body_21 fX12_130 rfl T.1 ?_
    refine x_iconst (v := nI 1) qX12_body_24 rfl ?_
    refine x_iadd_n qX12_body_25 ?_
    refine x_putI qX12_body_26 fX12_130 (Or.inl rfl) rfl ?_
    refine x_vret qX12_body_29 rfl ?_
    exact hQ _ hA ⟨fun b h1 _ => cm_u_ne h1, fun k h => rdK h⟩
  · rw [if_pos h] at hA
    refine x_aldn qX12_body_9 rfl trivial ?_
    refine x_getR qX12_body_10 fX12_133 rfl rfl ?_
    refine x_aldn qX12_body_13 rfl trivial ?_
    refine x_getIe qX12_body_14 fX12_130 rfl T.1 ?_
    refine x_ildn qX12_body_17 rfl ?_
    refine x_iast qX12_body_18 dd_101 rfl (by omega) (by decide) ?_
    refine x_aldn qX12_body_19 rfl trivial ?_
    refine x_dup qX12_body_20 rfl ?_
    refine x_getIe qX12_body_21 fX12_130 rfl (show _ = nI s.length from by rw [rdB (by decide)]; exact T.1) ?_
    refine x_iconst (v := nI 1) qX12_body_24 rfl ?_
    refine x_iadd_n qX12_body_25 ?_
    refine x_putI qX12_body_26 fX12_130 (Or.inl rfl) rfl ?_
    refine x_vret qX12_body_29 rfl ?_
    exact hQ _ hA ⟨fun b h1 h2 => by rw [cm_u_ne h1, cm_u_ne h2], fun k h => by rw [rdK h, rdB (by decide)]⟩
theorem c_X12_plainTakes (T : MTR s I) (hs : s.length < 1000) (hQ : ∀ I', MTR (s ++ [10]) I' → FM I I' → Q (some (.int (x + nI t))) I' L (RR u hr tl) (DD u)) : cm_Ex l g 2 0 0 mX12_plainTakes 0 [.ref 73, .int (nI t), .int x] [] I L (RR u hr tl) (DD u) Q := by
  refine x_aldn qX12_plainTakes_0 rfl trivial ?_
  refine x_bipush (v := nI 10) qX12_plainTakes_1 rfl ?_
  refine x_cV1 (d' := 1) qX12_plainTakes_3 cX12_278 rfl ⟨_, rfl, rfl⟩ rfl rfl (Nat.le_of_ble_eq_true rfl) (Nat.le_of_ble_eq_true rfl) (by decide) ?_
  refine c_X12_body T hs (fun I' T' F => ?_)
  refine x_ildn qX12_plainTakes_6 rfl ?_
  refine x_ildn qX12_plainTakes_7 rfl ?_
  refine x_iadd qX12_plainTakes_8 ?_
  refine x_iret qX12_plainTakes_9 rfl rfl ?_
  exact hQ I' T' F
theorem c_X12_takesAct (A : AH t m j I) (T : MTR s I) (hs : s.length + 10 ≤ 1000) (hQ : ∀ I', MTR (s ++ (rtA t m j x).2) I' → FM I I' → Q (some (.int (rtA t m j x).1)) I' L (RR u hr tl) (DD u)) : cm_Ex l g 3 0 0 mX12_takesAct 0 [.ref 73, .int (nI t), .int x] [] I L (RR u hr tl) (DD u) Q := by
  obtain ⟨a1, a2, a3, a4⟩ := id A
  have l1 : ∀ b, (s ++ [b]).length < 1000 := fun b => by rw [List.length_append]; show s.length + 1 < 1000; omega
  unfold rtA at hQ
  have pl : j ≠ 2 → j ≠ 4 → j ≠ 6 → cm_Ex l g 3 0 0 mX12_takesAct 89 [.ref 73, .int (nI t), .int x] [] I L (RR u hr tl) (DD u) Q := fun h2 h4 h6 => by
    rw [if_neg h2, if_neg h4, if_neg h6] at hQ
    refine x_aldn qX12_takesAct_89 rfl trivial ?_
    refine x_ildn qX12_takesAct_90 rfl ?_
    refine x_ildn qX12_takesAct_91 rfl ?_
    refine x_cV2 (d' := 2) qX12_takesAct_92 cX12_281 rfl ⟨_, rfl, rfl⟩ rfl rfl (Nat.le_of_ble_eq_true rfl) (Nat.le_of_ble_eq_true rfl) (by decide) ?_
    refine c_X12_plainTakes T (by omega) (fun I' T' F => ?_)
    refine x_iret qX12_takesAct_95 rfl rfl ?_
    exact hQ I' T' F
  refine x_aldn qX12_takesAct_0 rfl trivial ?_
  refine x_getR qX12_takesAct_1 fX12_16 rfl rfl ?_
  refine x_ildn qX12_takesAct_4 rfl ?_
  refine x_ialde qX12_takesAct_5 dd_74 rfl (by omega) (by decide) a1 ?_
  rcases (by omega : j = 0 ∨ j = 1 ∨ j = 2 ∨ j = 3 ∨ j = 4 ∨ j = 5 ∨ j = 6) with rfl | rfl | rfl | rfl | rfl | rfl | rfl
  · refine x_tblOut (tgt := 89) qX12_takesAct_6 (by decide) (by omega) ?_
    exact pl (by decide) (by decide) (by decide)
  · refine x_tblOut (tgt := 89) qX12_takesAct_6 (by decide) (by omega) ?_
    exact pl (by decide) (by decide) (by decide)
  · refine x_tbl (tgt := 40) (off := 34) qX12_takesAct_6 0 rfl (by decide) rfl (by omega) ?_
    refine x_aldn qX12_takesAct_40 rfl trivial ?_
    refine x_bipush (v := nI 30) qX12_takesAct_41 rfl ?_
    refine x_cV1 (d' := 1) qX12_takesAct_43 cX12_278 rfl ⟨_, rfl, rfl⟩ rfl rfl (Nat.le_of_ble_eq_true rfl) (Nat.le_of_ble_eq_true rfl) (by decide) ?_
    refine c_X12_body T (by omega) (fun I1 T1 F1 => ?_)
    refine x_aldn qX12_takesAct_46 rfl trivial ?_
    refine x_ildn qX12_takesAct_47 rfl ?_
    refine x_ildn qX12_takesAct_48 rfl ?_
    refine x_iconst (v := nI 3) qX12_takesAct_49 rfl ?_
    refine x_imul qX12_takesAct_50 ?_
    refine x_cV2 (d' := 2) qX12_takesAct_51 cX12_281 rfl ⟨_, rfl, rfl⟩ rfl rfl (Nat.le_of_ble_eq_true rfl) (Nat.le_of_ble_eq_true rfl) (by decide) ?_
    refine c_X12_plainTakes T1 (l1 _) (fun I2 T2 F2 => ?_)
    refine x_iret qX12_takesAct_54 rfl rfl ?_
    rw [List.append_assoc] at T2
    exact hQ I2 T2 (FM_tr F1 F2)
  · refine x_tbl (tgt := 89) (off := 83) qX12_takesAct_6 1 rfl (by decide) rfl (by omega) ?_
    exact pl (by decide) (by decide) (by decide)
  · refine x_tbl (tgt := 55) (off := 49) qX12_takesAct_6 2 rfl (by decide) rfl (by omega) ?_
    refine x_aldn qX12_takesAct_55 rfl trivial ?_
    refine x_bipush (v := nI 50) qX12_takesAct_56 rfl ?_
    refine x_cV1 (d' := 1) qX12_takesAct_58 cX12_278 rfl ⟨_, rfl, rfl⟩ rfl rfl (Nat.le_of_ble_eq_true rfl) (Nat.le_of_ble_eq_true rfl) (by decide) ?_
    refine c_X12_body T (by omega) (fun I1 T1 F1 => ?_)
    refine x_aldn qX12_takesAct_61 rfl trivial ?_
    refine x_ildn qX12_takesAct_62 rfl ?_
    refine x_ildn qX12_takesAct_63 rfl ?_
    refine x_cV2 (d' := 2) qX12_takesAct_64 cX12_281 rfl ⟨_, rfl, rfl⟩ rfl rfl (Nat.le_of_ble_eq_true rfl) (Nat.le_of_ble_eq_true rfl) (by decide) ?_
    refine c_X12_plainTakes T1 (l1 _) (fun I2 T2 F2 => ?_)
    refine x_ineg qX12_takesAct_67 ?_
    refine x_iret qX12_takesAct_68 rfl rfl ?_
    rw [List.append_assoc] at T2
    exact hQ I2 T2 (FM_tr F1 F2)
  · refine x_tbl (tgt := 89) (off := 83) qX12_takesAct_6 3 rfl (by decide) rfl (by omega) ?_
    exact pl (by decide) (by decide) (by decide)
  · refine x_tbl (tgt := 69) (off := 63) qX12_takesAct_6 4 rfl (by decide) rfl (by omega) ?_
    refine x_aldn qX12_takesAct_69 rfl trivial ?_
    refine x_bipush (v := nI 71) qX12_takesAct_70 rfl ?_
    refine x_cV1 (d' := 1) qX12_takesAct_72 cX12_278 rfl ⟨_, rfl, rfl⟩ rfl rfl (Nat.le_of_ble_eq_true rfl) (Nat.le_of_ble_eq_true rfl) (by decide) ?_
    refine c_X12_body T (by omega) (fun I1 T1 F1 => ?_)
    refine x_aldn qX12_takesAct_75 rfl trivial ?_
    refine x_ildn qX12_takesAct_76 rfl ?_
    refine x_ildn qX12_takesAct_77 rfl ?_
    refine x_cV2 (d' := 2) qX12_takesAct_78 cX12_281 rfl ⟨_, rfl, rfl⟩ rfl rfl (Nat.le_of_ble_eq_true rfl) (Nat.le_of_ble_eq_true rfl) (by decide) ?_
    refine c_X12_plainTakes T1 (l1 _) (fun I2 T2 F2 => ?_)
    have A2 := AH_fr A (FM_tr F1 F2)
    refine x_aldn qX12_takesAct_81 rfl trivial ?_
    refine x_getR qX12_takesAct_82 fX12_20 rfl rfl ?_
    refine x_ildn qX12_takesAct_85 rfl ?_
    refine x_ialde qX12_takesAct_86 dd_75 rfl (by omega) (by decide) A2.2.1 ?_
    refine x_ixor qX12_takesAct_87 ?_
    refine x_iret qX12_takesAct_88 rfl rfl ?_
    rw [List.append_assoc] at T2
    exact hQ I2 T2 (FM_tr F1 F2)
theorem c_X12_plainFollows (A : AH t m j I) (T : MTR s I) (hs : s.length + 11 ≤ 1000) (hQ : ∀ I', MTR (s ++ (pfA t m j x).2) I' → FM I I' → Q (some (.int (pfA t m j x).1)) I' L (RR u hr tl) (DD u)) : cm_Ex l g 4 0 0 mX12_plainFollows 0 [.ref 73, .int (nI t), .int x] [] I L (RR u hr tl) (DD u) Q := by
  have l4 := A.2.2.1
  refine x_aldn qX12_plainFollows_0 rfl trivial ?_
  refine x_bipush (v := nI 11) qX12_plainFollows_1 rfl ?_
  refine x_cV1 (d' := 1) qX12_plainFollows_3 cX12_278 rfl ⟨_, rfl, rfl⟩ rfl rfl (Nat.le_of_ble_eq_true rfl) (Nat.le_of_ble_eq_true rfl) (by decide) ?_
  refine c_X12_body T (by omega) (fun I1 T1 F1 => ?_)
  refine x_aldn qX12_plainFollows_6 rfl trivial ?_
  refine x_ildn qX12_plainFollows_7 rfl ?_
  refine x_ildn qX12_plainFollows_8 rfl ?_
  refine x_cV2 (d' := 3) qX12_plainFollows_9 cX12_284 rfl ⟨_, rfl, rfl⟩ rfl rfl (Nat.le_of_ble_eq_true rfl) (Nat.le_of_ble_eq_true rfl) (by decide) ?_
  refine c_X12_takesAct (AH_fr A F1) T1 (by rw [List.length_append]; show s.length + 1 + 10 ≤ 1000; omega) (fun I2 T2 F2 => ?_)
  have A2 := AH_fr A (FM_tr F1 F2)
  refine x_aldn qX12_plainFollows_12 rfl trivial ?_
  refine x_getR qX12_plainFollows_13 fX12_20 rfl rfl ?_
  refine x_ildn qX12_plainFollows_16 rfl ?_
  refine x_ialde qX12_plainFollows_17 dd_75 rfl (by omega) (by decide) A2.2.1 ?_
  refine x_isub qX12_plainFollows_18 ?_
  refine x_iret qX12_plainFollows_19 rfl rfl ?_
  rw [List.append_assoc] at T2
  exact hQ I2 T2 (FM_tr F1 F2)
theorem c_X12_switchFollows (A : AH t m j I) (T : MTR s I) (hs : s.length + 12 ≤ 1000) (hQ : ∀ I', MTR (s ++ (sfA t m j x).2) I' → FM I I' → Q (some (.int (sfA t m j x).1)) I' L (RR u hr tl) (DD u)) : cm_Ex l g 5 0 0 mX12_switchFollows 0 [.ref 73, .int (nI t), .int x] [] I L (RR u hr tl) (DD u) Q := by
  refine x_aldn qX12_switchFollows_0 rfl trivial ?_
  refine x_bipush (v := nI 20) qX12_switchFollows_1 rfl ?_
  refine x_cV1 (d' := 1) qX12_switchFollows_3 cX12_278 rfl ⟨_, rfl, rfl⟩ rfl rfl (Nat.le_of_ble_eq_true rfl) (Nat.le_of_ble_eq_true rfl) (by decide) ?_
  refine c_X12_body T (by omega) (fun I1 T1 F1 => ?_)
  refine x_aldn qX12_switchFollows_6 rfl trivial ?_
  refine x_ildn qX12_switchFollows_7 rfl ?_
  refine x_ildn qX12_switchFollows_8 rfl ?_
  refine x_cV2 (d' := 4) qX12_switchFollows_9 cX12_287 rfl ⟨_, rfl, rfl⟩ rfl rfl (Nat.le_of_ble_eq_true rfl) (Nat.le_of_ble_eq_true rfl) (by decide) ?_
  refine c_X12_plainFollows (AH_fr A F1) T1 (by rw [List.length_append]; show s.length + 1 + 11 ≤ 1000; omega) (fun I2 T2 F2 => ?_)
  refine x_bipush (v := nI 6) qX12_switchFollows_12 rfl ?_
  refine x_ixor qX12_switchFollows_14 ?_
  refine x_iret qX12_switchFollows_15 rfl rfl ?_
  rw [List.append_assoc] at T2
  exact hQ I2 T2 (FM_tr F1 F2)
theorem c_X12_followsAct (A : AH t m j I) (T : MTR s I) (hs : s.length + 20 ≤ 1000) (hQ : ∀ I', MTR (s ++ (rfA t m j x).2) I' → FM I I' → Q (some (.int (rfA t m j x).1)) I' L (RR u hr tl) (DD u)) : cm_Ex l g 6 0 0 mX12_followsAct 0 [.ref 73, .int (nI t), .int x, .float 0] [] I L (RR u hr tl) (DD u) Q := by
  obtain ⟨a1, a2, a3, a4⟩ := id A
  unfold rfA at hQ
  have pl : j ≠ 1 → j ≠ 4 → j ≠ 6 → cm_Ex l g 6 0 0 mX12_followsAct 84 [.ref 73, .int (nI t), .int x, .float 0] [] I L (RR u hr tl) (DD u) Q := fun h2 h4 h6 => by
    rw [if_neg h2, if_neg h4, if_neg h6] at hQ
    refine x_aldn qX12_followsAct_84 rfl trivial ?_
    refine x_ildn qX12_followsAct_85 rfl ?_
    refine x_ildn qX12_followsAct_86 rfl ?_
    refine x_cV2 (d' := 4) qX12_followsAct_87 cX12_287 rfl ⟨_, rfl, rfl⟩ rfl rfl (Nat.le_of_ble_eq_true rfl) (Nat.le_of_ble_eq_true rfl) (by decide) ?_
    refine c_X12_plainFollows A T (by omega) (fun I' T' F => ?_)
    refine x_iret qX12_followsAct_90 rfl rfl ?_
    exact hQ I' T' F
  refine x_aldn qX12_followsAct_0 rfl trivial ?_
  refine x_getR qX12_followsAct_1 fX12_16 rfl rfl ?_
  refine x_ildn qX12_followsAct_4 rfl ?_
  refine x_ialde qX12_followsAct_5 dd_74 rfl (by omega) (by decide) a1 ?_
  rcases (by omega : j = 0 ∨ j = 1 ∨ j = 2 ∨ j = 3 ∨ j = 4 ∨ j = 5 ∨ j = 6) with rfl | rfl | rfl | rfl | rfl | rfl | rfl
  · refine x_lkp (off := 78) (tgt := 84) qX12_followsAct_6 (by decide) (by decide +kernel) (by omega) ?_
    exact pl (by decide) (by decide) (by decide)
  · refine x_lkp (off := 34) (tgt := 40) qX12_followsAct_6 (by decide) (by decide +kernel) (by omega) ?_
    refine x_aldn qX12_followsAct_40 rfl trivial ?_
    refine x_ildn qX12_followsAct_41 rfl ?_
    refine x_ildn qX12_followsAct_42 rfl ?_
    refine x_cV2 (d' := 5) qX12_followsAct_43 cX12_290 rfl ⟨_, rfl, rfl⟩ rfl rfl (Nat.le_of_ble_eq_true rfl) (Nat.le_of_ble_eq_true rfl) (by decide) ?_
    refine c_X12_switchFollows A T (by omega) (fun I' T' F => ?_)
    refine x_iret qX12_followsAct_46 rfl rfl ?_
    exact hQ I' T' F
  · refine x_lkp (off := 78) (tgt := 84) qX12_followsAct_6 (by decide) (by decide +kernel) (by omega) ?_
    exact pl (by decide) (by decide) (by decide)
  · refine x_lkp (off := 78) (tgt := 84) qX12_followsAct_6 (by decide) (by decide +kernel) (by omega) ?_
    exact pl (by decide) (by decide) (by decide)
  · refine x_lkp (off := 41) (tgt := 47) qX12_followsAct_6 (by decide) (by decide +kernel) (by omega) ?_
    refine x_aldn qX12_followsAct_47 rfl trivial ?_
    refine x_bipush (v := nI 51) qX12_followsAct_48 rfl ?_
    refine x_cV1 (d' := 1) qX12_followsAct_50 cX12_278 rfl ⟨_, rfl, rfl⟩ rfl rfl (Nat.le_of_ble_eq_true rfl) (Nat.le_of_ble_eq_true rfl) (by decide) ?_
    refine c_X12_body T (by omega) (fun I1 T1 F1 => ?_)
    refine x_aldn qX12_followsAct_53 rfl trivial ?_
    refine x_ildn qX12_followsAct_54 rfl ?_
    refine x_ildn qX12_followsAct_55 rfl ?_
    refine x_iconst (v := nI 1) qX12_followsAct_56 rfl ?_
    refine x_iadd qX12_followsAct_57 ?_
    refine x_cV2 (d' := 5) qX12_followsAct_58 cX12_290 rfl ⟨_, rfl, rfl⟩ rfl rfl (Nat.le_of_ble_eq_true rfl) (Nat.le_of_ble_eq_true rfl) (by decide) ?_
    refine c_X12_switchFollows (AH_fr A F1) T1 (by rw [List.length_append]; show s.length + 1 + 12 ≤ 1000; omega) (fun I2 T2 F2 => ?_)
    refine x_iret qX12_followsAct_61 rfl rfl ?_
    rw [List.append_assoc] at T2
    exact hQ I2 T2 (FM_tr F1 F2)
  · refine x_lkp (off := 78) (tgt := 84) qX12_followsAct_6 (by decide) (by decide +kernel) (by omega) ?_
    exact pl (by decide) (by decide) (by decide)
  · refine x_lkp (off := 56) (tgt := 62) qX12_followsAct_6 (by decide) (by decide +kernel) (by omega) ?_
    refine x_aldn qX12_followsAct_62 rfl trivial ?_
    refine x_bipush (v := nI 70) qX12_followsAct_63 rfl ?_
    refine x_cV1 (d' := 1) qX12_followsAct_65 cX12_278 rfl ⟨_, rfl, rfl⟩ rfl rfl (Nat.le_of_ble_eq_true rfl) (Nat.le_of_ble_eq_true rfl) (by decide) ?_
    refine c_X12_body T (by omega) (fun I1 T1 F1 => ?_)
    refine x_aldn qX12_followsAct_68 rfl trivial ?_
    refine x_ildn qX12_followsAct_69 rfl ?_
    refine x_ildn qX12_followsAct_70 rfl ?_
    refine x_cV2 (d' := 4) qX12_followsAct_71 cX12_287 rfl ⟨_, rfl, rfl⟩ rfl rfl (Nat.le_of_ble_eq_true rfl) (Nat.le_of_ble_eq_true rfl) (by decide) ?_
    refine c_X12_plainFollows (AH_fr A F1) T1 (by rw [List.length_append]; show s.length + 1 + 11 ≤ 1000; omega) (fun I2 T2 F2 => ?_)
    refine x_ist3 qX12_followsAct_74 (by decide) rfl ?_
    refine x_ildn qX12_followsAct_75 rfl ?_
    refine x_aldn qX12_followsAct_76 rfl trivial ?_
    refine x_ildn qX12_followsAct_77 rfl ?_
    refine x_iconst (v := nI 2) qX12_followsAct_78 rfl ?_
    refine x_cV2 (d' := 2) qX12_followsAct_79 cX12_281 rfl ⟨_, rfl, rfl⟩ rfl rfl (Nat.le_of_ble_eq_true rfl) (Nat.le_of_ble_eq_true rfl) (by decide) ?_
    have lp := @pfA_len t m 6 x
    refine c_X12_plainTakes T2 (by rw [List.length_append, List.length_append]; show s.length + 1 + _ < 1000; omega) (fun I3 T3 F3 => ?_)
    refine x_iadd qX12_followsAct_82 ?_
    refine x_iret qX12_followsAct_83 rfl rfl ?_
    rw [List.append_assoc, List.append_assoc] at T3
    exact hQ I3 T3 (FM_tr F1 (FM_tr F2 F3))
theorem c_X12_plainTells (A : AH t m j I) (T : MTR s I) (hs : s.length + 30 ≤ 1000) (hQ : ∀ I', MTR (s ++ (ptA t m j x).2) I' → FM I I' → Q (some (.int (ptA t m j x).1)) I' L (RR u hr tl) (DD u)) : cm_Ex l g 7 0 0 mX12_plainTells 0 [.ref 73, .int (nI t), .int x] [] I L (RR u hr tl) (DD u) Q := by
  refine x_aldn qX12_plainTells_0 rfl trivial ?_
  refine x_bipush (v := nI 12) qX12_plainTells_1 rfl ?_
  refine x_cV1 (d' := 1) qX12_plainTells_3 cX12_278 rfl ⟨_, rfl, rfl⟩ rfl rfl (Nat.le_of_ble_eq_true rfl) (Nat.le_of_ble_eq_true rfl) (by decide) ?_
  refine c_X12_body T (by omega) (fun I1 T1 F1 => ?_)
  refine x_aldn qX12_plainTells_6 rfl trivial ?_
  refine x_ildn qX12_plainTells_7 rfl ?_
  refine x_ildn qX12_plainTells_8 rfl ?_
  refine x_cV2 (d' := 6) qX12_plainTells_9 cX12_293 rfl ⟨_, rfl, rfl⟩ rfl rfl (Nat.le_of_ble_eq_true rfl) (Nat.le_of_ble_eq_true rfl) (by decide) ?_
  refine c_X12_followsAct (AH_fr A F1) T1 (by rw [List.length_append]; show s.length + 1 + 20 ≤ 1000; omega) (fun I2 T2 F2 => ?_)
  refine x_iconst (v := nI 2) qX12_plainTells_12 rfl ?_
  refine x_imul qX12_plainTells_13 ?_
  refine x_iret qX12_plainTells_14 rfl rfl ?_
  rw [List.append_assoc] at T2
  exact hQ I2 T2 (FM_tr F1 F2)
theorem c_X12_tellsAct (A : AH t m j I) (T : MTR s I) (hs : s.length + 60 ≤ 1000) (hQ : ∀ I', MTR (s ++ (rlA t m j x).2) I' → FM I I' → Q (some (.int (rlA t m j x).1)) I' L (RR u hr tl) (DD u)) : cm_Ex l g 8 0 0 mX12_tellsAct 0 [.ref 73, .int (nI t), .int x, .float 0] [] I L (RR u hr tl) (DD u) Q := by
  obtain ⟨a1, a2, a3, a4⟩ := id A
  unfold rlA at hQ
  have pl : j ≠ 3 → ¬ (j = 5 ∨ j = 6) → cm_Ex l g 8 0 0 mX12_tellsAct 73 [.ref 73, .int (nI t), .int x, .float 0] [] I L (RR u hr tl) (DD u) Q := fun h2 h4 => by
    rw [if_neg h2, if_neg h4] at hQ
    refine x_aldn qX12_tellsAct_73 rfl trivial ?_
    refine x_ildn qX12_tellsAct_74 rfl ?_
    refine x_ildn qX12_tellsAct_75 rfl ?_
    refine x_cV2 (d' := 7) qX12_tellsAct_76 cX12_296 rfl ⟨_, rfl, rfl⟩ rfl rfl (Nat.le_of_ble_eq_true rfl) (Nat.le_of_ble_eq_true rfl) (by decide) ?_
    refine c_X12_plainTells A T (by omega) (fun I' T' F => ?_)
    refine x_iret qX12_tellsAct_79 rfl rfl ?_
    exact hQ I' T' F
  have p5 : j ≠ 3 → (j = 5 ∨ j = 6) → cm_Ex l g 8 0 0 mX12_tellsAct 58 [.ref 73, .int (nI t), .int x, .float 0] [] I L (RR u hr tl) (DD u) Q := fun h2 h4 => by
    rw [if_neg h2, if_pos h4] at hQ
    refine x_aldn qX12_tellsAct_58 rfl trivial ?_
    refine x_bipush (v := nI 60) qX12_tellsAct_59 rfl ?_
    refine x_cV1 (d' := 1) qX12_tellsAct_61 cX12_278 rfl ⟨_, rfl, rfl⟩ rfl rfl (Nat.le_of_ble_eq_true rfl) (Nat.le_of_ble_eq_true rfl) (by decide) ?_
    refine c_X12_body T (by omega) (fun I1 T1 F1 => ?_)
    refine x_aldn qX12_tellsAct_64 rfl trivial ?_
    refine x_ildn qX12_tellsAct_65 rfl ?_
    refine x_ildn qX12_tellsAct_66 rfl ?_
    refine x_ildn qX12_tellsAct_67 rfl ?_
    refine x_isub qX12_tellsAct_68 ?_
    refine x_cV2 (d' := 7) qX12_tellsAct_69 cX12_296 rfl ⟨_, rfl, rfl⟩ rfl rfl (Nat.le_of_ble_eq_true rfl) (Nat.le_of_ble_eq_true rfl) (by decide) ?_
    refine c_X12_plainTells (AH_fr A F1) T1 (by rw [List.length_append]; show s.length + 1 + 30 ≤ 1000; omega) (fun I2 T2 F2 => ?_)
    refine x_iret qX12_tellsAct_72 rfl rfl ?_
    rw [List.append_assoc] at T2
    exact hQ I2 T2 (FM_tr F1 F2)
  refine x_aldn qX12_tellsAct_0 rfl trivial ?_
  refine x_getR qX12_tellsAct_1 fX12_16 rfl rfl ?_
  refine x_ildn qX12_tellsAct_4 rfl ?_
  refine x_ialde qX12_tellsAct_5 dd_74 rfl (by omega) (by decide) a1 ?_
  rcases (by omega : j = 0 ∨ j = 1 ∨ j = 2 ∨ j = 3 ∨ j = 4 ∨ j = 5 ∨ j = 6) with rfl | rfl | rfl | rfl | rfl | rfl | rfl
  · refine x_tblOut (tgt := 73) qX12_tellsAct_6 (by decide) (by omega) ?_
    exact pl (by decide) (by decide)
  · refine x_tblOut (tgt := 73) qX12_tellsAct_6 (by decide) (by omega) ?_
    exact pl (by decide) (by decide)
  · refine x_tblOut (tgt := 73) qX12_tellsAct_6 (by decide) (by omega) ?_
    exact pl (by decide) (by decide)
  · refine x_tbl (tgt := 36) (off := 30) qX12_tellsAct_6 0 rfl (by decide) rfl (by omega) ?_
    refine x_aldn qX12_tellsAct_36 rfl trivial ?_
    refine x_bipush (v := nI 40) qX12_tellsAct_37 rfl ?_
    refine x_cV1 (d' := 1) qX12_tellsAct_39 cX12_278 rfl ⟨_, rfl, rfl⟩ rfl rfl (Nat.le_of_ble_eq_true rfl) (Nat.le_of_ble_eq_true rfl) (by decide) ?_
    refine c_X12_body T (by omega) (fun I1 T1 F1 => ?_)
    refine x_aldn qX12_tellsAct_42 rfl trivial ?_
    refine x_ildn qX12_tellsAct_43 rfl ?_
    refine x_ildn qX12_tellsAct_44 rfl ?_
    refine x_cV2 (d' := 7) qX12_tellsAct_45 cX12_296 rfl ⟨_, rfl, rfl⟩ rfl rfl (Nat.le_of_ble_eq_true rfl) (Nat.le_of_ble_eq_true rfl) (by decide) ?_
    refine c_X12_plainTells (AH_fr A F1) T1 (by rw [List.length_append]; show s.length + 1 + 30 ≤ 1000; omega) (fun I2 T2 F2 => ?_)
    refine x_ist3 qX12_tellsAct_48 (by decide) rfl ?_
    refine x_ildn qX12_tellsAct_49 rfl ?_
    refine x_aldn qX12_tellsAct_50 rfl trivial ?_
    refine x_ildn qX12_tellsAct_51 rfl ?_
    refine x_iconst (v := nI 1) qX12_tellsAct_52 rfl ?_
    refine x_cV2 (d' := 6) qX12_tellsAct_53 cX12_293 rfl ⟨_, rfl, rfl⟩ rfl rfl (Nat.le_of_ble_eq_true rfl) (Nat.le_of_ble_eq_true rfl) (by decide) ?_
    have lp := @ptA_len t m 3 x
    refine c_X12_followsAct (AH_fr A (FM_tr F1 F2)) T2 (by rw [List.length_append, List.length_append]; show s.length + 1 + _ + 20 ≤ 1000; omega) (fun I3 T3 F3 => ?_)
    refine x_iadd qX12_tellsAct_56 ?_
    refine x_iret qX12_tellsAct_57 rfl rfl ?_
    rw [List.append_assoc, List.append_assoc] at T3
    exact hQ I3 T3 (FM_tr F1 (FM_tr F2 F3))
  · refine x_tbl (tgt := 73) (off := 67) qX12_tellsAct_6 1 rfl (by decide) rfl (by omega) ?_
    exact pl (by decide) (by decide)
  · refine x_tbl (tgt := 58) (off := 52) qX12_tellsAct_6 2 rfl (by decide) rfl (by omega) ?_
    exact p5 (by decide) (by decide)
  · refine x_tbl (tgt := 58) (off := 52) qX12_tellsAct_6 3 rfl (by decide) rfl (by omega) ?_
    exact p5 (by decide) (by decide)
end M9
