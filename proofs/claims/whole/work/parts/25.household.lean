/-! Household: what it holds; its readers -/
def bcI (x : Int32) : Int32 :=
  let x1 := x - ((x.toUInt32 >>> ((1 : Int32).toUInt32 &&& Int32.toUInt32 31)).toInt32 &&& 1431655765)
  let x2 := (x1 &&& 858993459) + ((x1.toUInt32 >>> ((2 : Int32).toUInt32 &&& Int32.toUInt32 31)).toInt32 &&& 858993459)
  let x3 := (x2 + (x2.toUInt32 >>> ((4 : Int32).toUInt32 &&& Int32.toUInt32 31)).toInt32) &&& 252645135
  let x4 := x3 + (x3.toUInt32 >>> ((8 : Int32).toUInt32 &&& Int32.toUInt32 31)).toInt32
  let x5 := x4 + (x4.toUInt32 >>> ((16 : Int32).toUInt32 &&& Int32.toUInt32 31)).toInt32
  x5 &&& 63
theorem bcI_small : ∀ u, u < 256 → bcI ((nI u ||| nI u >>> (1 &&& 31)) &&& 85) = nI ((if u % 4 = 0 then 0 else 1) + (if u / 4 % 4 = 0 then 0 else 1) + (if u / 16 % 4 = 0 then 0 else 1) + (if u / 64 % 4 = 0 then 0 else 1)) := by decide +kernel
/-- what the household holds: n things, their kinds, their states -/
def HI (n : Nat) (kd mm : Nat → Nat) (I : cm_I) (L : cm_L) : Prop :=
  n ≤ 4 ∧ okm mm n ∧ (∀ i, i < n → kd i < 7) ∧ wys mm n ≤ 64 ∧ I 1 6 = nI n ∧ I 1 7 = nI (wys mm n) ∧
  (∀ i, i < n → I (106 + i) 0 = nI i ∧ I (106 + i) 1 = nI (kd i) ∧ I (106 + i) 2 = nI (mm i)) ∧
  (∀ w, w < 64 → tb (L 1 5) w = (decide (w < wys mm n) && lwf kd mm n w)) ∧
  (∀ t, t < n → ∀ k, k < mm t → ∀ w, w < 64 → tb (L 3 (4 * t + k)) w = (decide (w < wys mm n) && (dgt mm w t == k))) ∧
  (∀ w, w < wys mm n → ∀ v, v < 64 → tb (L 4 w) v = (decide (v < wys mm n) && nxt kd mm n w v)) ∧
  (∀ w, w < wys mm n → ∀ v, v < 64 → tb (L 5 w) v = (decide (v < wys mm n) && nxt kd mm n v w)) ∧
  (∀ w, w < wys mm n → I 6 w = nI (fig mm n w))
theorem wys1 {mm : Nat → Nat} {n : Nat} (h : okm mm n) : 1 ≤ wys mm n := wys_pos h
section K4
variable {l : Launch} {g : cm_G} {I : cm_I} {L : cm_L} {n : Nat} {hr tl : Option Nat} {Q : cm_Post} {kd mm : Nat → Nat}
theorem c_J6_bitCount {R : cm_R} {ds : cm_Ds} {x : Int32} (hQ : Q (some (.int (bcI x))) I L R ds) : cm_Ex l g 1 0 0 mJ6_bitCount 0 [.int x] [] I L R ds Q := by
  refine x_ildn qJ6_bitCount_0 rfl ?_
  refine x_ildn qJ6_bitCount_1 rfl ?_
  refine x_iconst (v := 1) qJ6_bitCount_2 rfl ?_
  refine x_iushr qJ6_bitCount_3 ?_
  refine x_ldcw qJ6_bitCount_4 vJ6_265 ?_
  refine x_iand qJ6_bitCount_7 ?_
  refine x_isub qJ6_bitCount_8 ?_
  refine x_ist0 qJ6_bitCount_9 (by decide) trivial ?_
  refine x_ildn qJ6_bitCount_10 rfl ?_
  refine x_ldcw qJ6_bitCount_11 vJ6_266 ?_
  refine x_iand qJ6_bitCount_14 ?_
  refine x_ildn qJ6_bitCount_15 rfl ?_
  refine x_iconst (v := 2) qJ6_bitCount_16 rfl ?_
  refine x_iushr qJ6_bitCount_17 ?_
  refine x_ldcw qJ6_bitCount_18 vJ6_266 ?_
  refine x_iand qJ6_bitCount_21 ?_
  refine x_iadd qJ6_bitCount_22 ?_
  refine x_ist0 qJ6_bitCount_23 (by decide) trivial ?_
  refine x_ildn qJ6_bitCount_24 rfl ?_
  refine x_ildn qJ6_bitCount_25 rfl ?_
  refine x_iconst (v := 4) qJ6_bitCount_26 rfl ?_
  refine x_iushr qJ6_bitCount_27 ?_
  refine x_iadd qJ6_bitCount_28 ?_
  refine x_ldcw qJ6_bitCount_29 vJ6_267 ?_
  refine x_iand qJ6_bitCount_32 ?_
  refine x_ist0 qJ6_bitCount_33 (by decide) trivial ?_
  refine x_ildn qJ6_bitCount_34 rfl ?_
  refine x_ildn qJ6_bitCount_35 rfl ?_
  refine x_bipush (v := 8) qJ6_bitCount_36 rfl ?_
  refine x_iushr qJ6_bitCount_38 ?_
  refine x_iadd qJ6_bitCount_39 ?_
  refine x_ist0 qJ6_bitCount_40 (by decide) trivial ?_
  refine x_ildn qJ6_bitCount_41 rfl ?_
  refine x_ildn qJ6_bitCount_42 rfl ?_
  refine x_bipush (v := 16) qJ6_bitCount_43 rfl ?_
  refine x_iushr qJ6_bitCount_45 ?_
  refine x_iadd qJ6_bitCount_46 ?_
  refine x_ist0 qJ6_bitCount_47 (by decide) trivial ?_
  refine x_ildn qJ6_bitCount_48 rfl ?_
  refine x_bipush (v := 63) qJ6_bitCount_49 rfl ?_
  refine x_iand qJ6_bitCount_51 ?_
  refine x_iret qJ6_bitCount_52 rfl rfl ?_
  exact hQ
theorem c_X3_thingAt {i : Int32} (H : HI n kd mm I L) (hs : ∀ j, j < n → i = nI j → Q (some (.ref (106 + j))) I L (RR n hr tl) (DD n)) (hn : ¬ (0 ≤ i.toInt ∧ i.toInt < n) → Q (some .null) I L (RR n hr tl) (DD n)) : cm_Ex l g 1 0 0 mX3_thingAt 0 [.ref 1, .int i] [] I L (RR n hr tl) (DD n) Q := by
  obtain ⟨h4, -, -, -, h6, -⟩ := H
  have e1 := nI_toInt (n := n) (by omega)
  have e2 : (nI 4).toInt = 4 := by decide
  refine x_ildn qX3_thingAt_0 rfl ?_
  refine x_if_lt (tgt := 30) qX3_thingAt_1 (by omega) (fun h1 => ?_) (fun h1 => ?_)
  · refine x_null qX3_thingAt_30 ?_
    refine x_aret qX3_thingAt_31 rfl trivial ?_
    simp only [Int32.le_iff_toInt_le, Int32.lt_iff_toInt_lt, t0i, e1, e2] at *
    exact hn (by omega)
  · refine x_ildn qX3_thingAt_4 rfl ?_
    refine x_aldn qX3_thingAt_5 rfl trivial ?_
    refine x_getIe qX3_thingAt_6 fX3_35 rfl h6 ?_
    refine x_icmp_ge (tgt := 30) qX3_thingAt_9 (by omega) (fun h9 => ?_) (fun h9 => ?_)
    · refine x_null qX3_thingAt_30 ?_
      refine x_aret qX3_thingAt_31 rfl trivial ?_
      simp only [Int32.le_iff_toInt_le, Int32.lt_iff_toInt_lt, t0i, e1, e2] at *
      exact hn (by omega)
    · refine x_ildn qX3_thingAt_12 rfl ?_
      refine x_aldn qX3_thingAt_13 rfl trivial ?_
      refine x_getR qX3_thingAt_14 fX3_11 rfl rfl ?_
      refine x_alen qX3_thingAt_17 rfl (by decide) rfl ?_
      refine x_icmp_ge (tgt := 30) qX3_thingAt_18 (by omega) (fun h18 => ?_) (fun h18 => ?_)
      · refine x_null qX3_thingAt_30 ?_
        refine x_aret qX3_thingAt_31 rfl trivial ?_
        simp only [Int32.le_iff_toInt_le, Int32.lt_iff_toInt_lt, t0i, e1, e2] at *
        exact hn (by omega)
      · simp only [Int32.le_iff_toInt_le, Int32.lt_iff_toInt_lt, t0i, e1, e2] at h1 h9 h18
        obtain ⟨j, hj, rfl⟩ := nI_of (x := i) (by rw [Int32.lt_iff_toInt_lt, t0i]; omega)
        rw [nI_toInt hj] at h1 h9 h18
        have hjn : j < n := by omega
        refine x_aldn qX3_thingAt_21 rfl trivial ?_
        refine x_getR qX3_thingAt_22 fX3_11 rfl rfl ?_
        refine x_ildn qX3_thingAt_25 rfl ?_
        refine x_aalde qX3_thingAt_26 rfl (by decide) rfl (by omega) (by decide) (rr_th hjn) ?_
        refine x_goto (tgt := 31) qX3_thingAt_27 (by omega) ?_
        refine x_aret qX3_thingAt_31 rfl trivial ?_
        exact hs j hjn rfl
theorem c_X3_hasWay {i : Int32} {R : cm_R} {t : Nat} (H : HI n kd mm I L) (ht : 0 ≤ i.toInt ∧ i.toInt < wys mm n → Q (some (.int 1)) I L R (DD t)) (hf : ¬ (0 ≤ i.toInt ∧ i.toInt < wys mm n) → Q (some (.int 0)) I L R (DD t)) : cm_Ex l g 1 0 0 mX3_hasWay 0 [.ref 1, .int i] [] I L R (DD t) Q := by
  obtain ⟨h4, -, -, h64, h6, h7, -⟩ := H
  have e1 := nI_toInt (n := wys mm n) (by omega)
  refine x_ildn qX3_hasWay_0 rfl ?_
  refine x_if_lt (tgt := 16) qX3_hasWay_1 (by omega) (fun h1 => ?_) (fun h1 => ?_)
  · refine x_iconst (v := 0) qX3_hasWay_16 rfl ?_
    refine x_iret qX3_hasWay_17 rfl rfl ?_
    simp only [Int32.le_iff_toInt_le, Int32.lt_iff_toInt_lt, t0i, e1] at *
    first | exact ht (by omega) | exact hf (by omega)
  · refine x_ildn qX3_hasWay_4 rfl ?_
    refine x_aldn qX3_hasWay_5 rfl trivial ?_
    refine x_getIe qX3_hasWay_6 fX3_39 rfl h7 ?_
    refine x_icmp_ge (tgt := 16) qX3_hasWay_9 (by omega) (fun h9 => ?_) (fun h9 => ?_)
    · refine x_iconst (v := 0) qX3_hasWay_16 rfl ?_
      refine x_iret qX3_hasWay_17 rfl rfl ?_
      simp only [Int32.le_iff_toInt_le, Int32.lt_iff_toInt_lt, t0i, e1] at *
      first | exact ht (by omega) | exact hf (by omega)
    · refine x_iconst (v := 1) qX3_hasWay_12 rfl ?_
      refine x_goto (tgt := 17) qX3_hasWay_13 (by omega) ?_
      refine x_iret qX3_hasWay_17 rfl rfl ?_
      simp only [Int32.le_iff_toInt_le, Int32.lt_iff_toInt_lt, t0i, e1] at *
      first | exact ht (by omega) | exact hf (by omega)
theorem c_X3_hasRoomFor {m : Nat} {R : cm_R} {t : Nat} (H : HI n kd mm I L) (hm : m ≤ 4) (ht : n < 4 ∧ wys mm n * m ≤ 64 → Q (some (.int 1)) I L R (DD t)) (hf : ¬ (n < 4 ∧ wys mm n * m ≤ 64) → Q (some (.int 0)) I L R (DD t)) : cm_Ex l g 1 0 0 mX3_hasRoomFor 0 [.ref 1, .int (nI m)] [] I L R (DD t) Q := by
  obtain ⟨h4, -, -, h64, h6, h7, -⟩ := H
  have hb : wys mm n * m ≤ 64 * 4 := Nat.mul_le_mul h64 hm
  refine x_aldn qX3_hasRoomFor_0 rfl trivial ?_
  refine x_getIe qX3_hasRoomFor_1 fX3_35 rfl h6 ?_
  refine x_iconst (v := nI 4) qX3_hasRoomFor_4 rfl ?_
  refine x_icmp_ge_n (tgt := 23) qX3_hasRoomFor_5 (by omega) (by omega) (by omega) (fun h5 => ?_) (fun h5 => ?_)
  · refine x_iconst (v := nI 0) qX3_hasRoomFor_23 rfl ?_
    refine x_iret qX3_hasRoomFor_24 rfl rfl ?_
    first | exact ht (by omega) | exact hf (by omega)
  · refine x_aldn qX3_hasRoomFor_8 rfl trivial ?_
    refine x_getIe qX3_hasRoomFor_9 fX3_39 rfl h7 ?_
    refine x_ildn qX3_hasRoomFor_12 rfl ?_
    refine x_imul_n qX3_hasRoomFor_13 ?_
    refine x_bipush (v := nI 64) qX3_hasRoomFor_14 rfl ?_
    refine x_icmp_gt_n (tgt := 23) qX3_hasRoomFor_16 (by omega) (by omega) (by omega) (fun h16 => ?_) (fun h16 => ?_)
    · refine x_iconst (v := nI 0) qX3_hasRoomFor_23 rfl ?_
      refine x_iret qX3_hasRoomFor_24 rfl rfl ?_
      first | exact ht (by omega) | exact hf (by omega)
    · refine x_iconst (v := nI 1) qX3_hasRoomFor_19 rfl ?_
      refine x_goto (tgt := 24) qX3_hasRoomFor_20 (by omega) ?_
      refine x_iret qX3_hasRoomFor_24 rfl rfl ?_
      first | exact ht (by omega) | exact hf (by omega)
theorem c_X3_lawfulWays {R : cm_R} {t : Nat} (hQ : Q (some (.long (L 1 5))) I L R (DD t)) : cm_Ex l g 1 0 0 mX3_lawfulWays 0 [.ref 1] [] I L R (DD t) Q := by
  refine x_aldn qX3_lawfulWays_0 rfl trivial ?_
  refine x_getL qX3_lawfulWays_1 fX3_31 rfl ?_
  refine x_lret qX3_lawfulWays_4 rfl ?_
  exact hQ
theorem c_X3_waysWith {j k : Nat} (H : HI n kd mm I L) (hj : j < n) (hk : k < mm j) (hQ : Q (some (.long (L 3 (4 * j + k)))) I L (RR n hr tl) (DD n)) : cm_Ex l g 2 0 0 mX3_waysWith 0 [.ref 1, .int (nI j), .int (nI k), .float 0] [] I L (RR n hr tl) (DD n) Q := by
  obtain ⟨h4, ho, -, -, h6, -, hth, -⟩ := id H
  have hmj := ho j hj
  refine x_aldn qX3_waysWith_0 rfl trivial ?_
  refine x_ildn qX3_waysWith_1 rfl ?_
  refine x_cV1 (d' := 1) qX3_waysWith_2 cX3_66 rfl ⟨_, rfl, rfl⟩ rfl rfl (Nat.le_of_ble_eq_true rfl) (Nat.le_of_ble_eq_true rfl) (by decide) ?_
  refine c_X3_thingAt H (fun i hi hij => ?_) (fun h => absurd (by rw [nI_toInt (by omega)]; omega) h)
  have e : j = i := (nI_eq (by omega) (by omega)).mp hij
  subst e
  refine x_ast3 qX3_waysWith_5 (by decide) trivial rfl ?_
  refine x_aldn qX3_waysWith_6 rfl trivial ?_
  refine x_ifnull qX3_waysWith_7 ?_
  refine x_aldn qX3_waysWith_10 rfl trivial ?_
  refine x_ildn qX3_waysWith_11 rfl ?_
  refine x_cV1 (d' := 1) qX3_waysWith_12 cX3_70 (dd_th hj) ⟨_, rfl, rfl⟩ rfl rfl (Nat.le_of_ble_eq_true rfl) (Nat.le_of_ble_eq_true rfl) (by decide) ?_
  refine c_X9_hasState (dd_th hj) (fun _ => ?_) (fun h => absurd (by rw [(hth j hj).2.2, nI_toInt (by omega), nI_toInt (by omega)]; omega) h)
  refine x_if_eq_f (tgt := 31) qX3_waysWith_15 (by omega) (by decide) ?_
  refine x_aldn qX3_waysWith_18 rfl trivial ?_
  refine x_getR qX3_waysWith_19 fX3_17 rfl rfl ?_
  refine x_ildn qX3_waysWith_22 rfl ?_
  refine x_iconst (v := nI 4) qX3_waysWith_23 rfl ?_
  refine x_imul_n qX3_waysWith_24 ?_
  refine x_ildn qX3_waysWith_25 rfl ?_
  refine x_iadd_n qX3_waysWith_26 ?_
  refine x_lald qX3_waysWith_27 rfl (by rw [Nat.mul_comm j 4]) (by omega) (by decide) ?_
  refine x_goto (tgt := 32) qX3_waysWith_28 (by omega) ?_
  refine x_lret qX3_waysWith_32 rfl ?_
  exact hQ
theorem c_X3_afterWay {w : Nat} {R : cm_R} {t : Nat} (hR : R 1 2 = some 4) (H : HI n kd mm I L) (hw : w < wys mm n) (hQ : Q (some (.long (L 4 w))) I L R (DD t)) : cm_Ex l g 2 0 0 mX3_afterWay 0 [.ref 1, .int (nI w)] [] I L R (DD t) Q := by
  obtain ⟨h4, -, -, h64, h6, h7, -⟩ := id H
  have e1 := nI_toInt (n := w) (by omega)
  refine x_aldn qX3_afterWay_0 rfl trivial ?_
  refine x_ildn qX3_afterWay_1 rfl ?_
  refine x_cV1 (d' := 1) qX3_afterWay_2 cX3_73 rfl ⟨_, rfl, rfl⟩ rfl rfl (Nat.le_of_ble_eq_true rfl) (Nat.le_of_ble_eq_true rfl) (by decide) ?_
  refine c_X3_hasWay H (fun h2 => ?_) (fun h2 => absurd (by omega) h2)
  refine x_if_eq_f (tgt := 17) qX3_afterWay_5 (by omega) (by decide) ?_
  refine x_aldn qX3_afterWay_8 rfl trivial ?_
  refine x_getR qX3_afterWay_9 fX3_21 rfl hR ?_
  refine x_ildn qX3_afterWay_12 rfl ?_
  refine x_lald qX3_afterWay_13 rfl rfl (by omega) (by decide) ?_
  refine x_goto (tgt := 18) qX3_afterWay_14 (by omega) ?_
  refine x_lret qX3_afterWay_18 rfl ?_
  exact hQ
end K4
