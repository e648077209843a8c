/-! texts of the class: their lengths and signs -/
theorem ty_len : ∀ i, i < 8 → (cm_tx i).length = (tyn i).length ∧ (tyn i).length ≤ 10 := by decide +kernel
theorem ty_get : ∀ i, i < 8 → ∀ k, k < (tyn i).length → (((cm_tx i).getD k 0 &&& nI 255).toUInt32 % 65536).toInt32 = nI ((tyn i).getD k 0) ∧ narrow .char (.int (nI ((tyn i).getD k 0))) = .int (nI ((tyn i).getD k 0)) := by
  intro i hi
  rcases (by omega : i = 0 ∨ i = 1 ∨ i = 2 ∨ i = 3 ∨ i = 4 ∨ i = 5 ∨ i = 6 ∨ i = 7) with rfl | rfl | rfl | rfl | rfl | rfl | rfl | rfl <;> intro k hk <;> (have hk' : k < 10 := Nat.lt_of_lt_of_le hk (by decide)) <;> rcases (by omega : k = 0 ∨ k = 1 ∨ k = 2 ∨ k = 3 ∨ k = 4 ∨ k = 5 ∨ k = 6 ∨ k = 7 ∨ k = 8 ∨ k = 9) with rfl | rfl | rfl | rfl | rfl | rfl | rfl | rfl | rfl | rfl <;> first | exact ⟨by decide +kernel, by decide +kernel⟩ | exact absurd hk (by decide)
theorem ty_shr : ∀ i, i < 8 → nI (cm_tx i).length >>> (0 &&& 31) = nI (tyn i).length := by decide +kernel
section K11
variable {l : Launch} {g : cm_G} {I : cm_I} {L : cm_L} {R : cm_R} {ds : cm_Ds} {Q : cm_Post}
theorem c_J3_checkIndex {i n : Nat} {a : Value} (hi : i < n) (hn : n < 1000) (hQ : Q (some (.int (nI i))) I L R ds) : cm_Ex l g 1 0 0 mJ3_checkIndex 0 [.int (nI i), .int (nI n), a] [] I L R ds Q := by
  refine x_ildn qJ3_checkIndex_0 rfl ?_
  refine x_if_lt_nf (tgt := 9) qJ3_checkIndex_1 (by omega) (by omega) ?_
  refine x_ildn qJ3_checkIndex_4 rfl ?_
  refine x_ildn qJ3_checkIndex_5 rfl ?_
  refine x_icmp_lt_nt (tgt := 16) qJ3_checkIndex_6 (by omega) (by omega) (by omega) (by omega) ?_
  refine x_ildn qJ3_checkIndex_16 rfl ?_
  refine x_iret qJ3_checkIndex_17 rfl rfl ?_
  exact hQ
theorem c_J0_checkIndex {i n : Nat} (hi : i < n) (hn : n < 1000) (hQ : Q none I L R ds) : cm_Ex l g 2 0 0 mJ0_checkIndex 0 [.int (nI i), .int (nI n)] [] I L R ds Q := by
  refine x_ildn qJ0_checkIndex_0 rfl ?_
  refine x_ildn qJ0_checkIndex_1 rfl ?_
  refine x_gsF qJ0_checkIndex_2 gJ0_1053 ?_
  refine x_cS3 (d' := 1) qJ0_checkIndex_5 cJ0_1059 rfl rfl (Nat.le_of_ble_eq_true rfl) (Nat.le_of_ble_eq_true rfl) (by decide) ?_
  refine c_J3_checkIndex hi hn ?_
  refine x_pop qJ0_checkIndex_8 rfl ?_
  refine x_vret qJ0_checkIndex_9 rfl ?_
  exact hQ
theorem c_J1_charAt {i k : Nat} (hi : i < 8) (hk : k < (tyn i).length) (hQ : Q (some (.int (nI ((tyn i).getD k 0)))) I L R ds) : cm_Ex l g 3 0 0 mJ1_charAt 0 [.retAddr (30 + i), .int (nI k)] [] I L R ds Q := by
  have h1 := ty_len i hi
  have hk' : k < (cm_tx i).length := by omega
  refine x_ildn qJ1_charAt_0 rfl ?_
  refine x_aldn qJ1_charAt_1 rfl trivial ?_
  refine x_slen qJ1_charAt_2 hi ?_
  refine x_cS2 (d' := 2) qJ1_charAt_3 cJ1_9 rfl rfl (Nat.le_of_ble_eq_true rfl) (Nat.le_of_ble_eq_true rfl) (by decide) ?_
  refine c_J0_checkIndex hk' (by omega) ?_
  refine x_aldn qJ1_charAt_6 rfl trivial ?_
  refine x_ildn qJ1_charAt_7 rfl ?_
  refine x_sbald qJ1_charAt_8 hi rfl hk' ?_
  refine x_sipush (v := nI 255) qJ1_charAt_9 rfl ?_
  refine x_iand qJ1_charAt_12 ?_
  refine x_i2c qJ1_charAt_13 ?_
  refine x_iret qJ1_charAt_14 rfl (by rw [(ty_get i hi k hk).1]; exact (ty_get i hi k hk).2) ?_
  rw [(ty_get i hi k hk).1]; exact hQ
theorem c_J0_isLatin1 {i : Nat} (hi : i < 8) (hQ : Q (some (.int 1)) I L R ds) : cm_Ex l g 1 0 0 mJ0_isLatin1 0 [.retAddr (10 + i)] [] I L R ds Q := by
  refine x_gsC qJ0_isLatin1_0 gJ0_38 ?_
  refine x_if_eq_f (tgt := 17) qJ0_isLatin1_3 (by omega) (by decide) ?_
  refine x_aldn qJ0_isLatin1_6 rfl trivial ?_
  refine x_getC qJ0_isLatin1_7 hi gJ0_15 ?_
  refine x_if_ne_f (tgt := 17) qJ0_isLatin1_10 (by omega) rfl ?_
  refine x_iconst (v := nI 1) qJ0_isLatin1_13 rfl ?_
  refine x_goto (tgt := 18) qJ0_isLatin1_14 (by omega) ?_
  refine x_iret qJ0_isLatin1_18 rfl rfl ?_
  exact hQ
theorem c_J0_coder {i : Nat} (hi : i < 8) (hQ : Q (some (.int 0)) I L R ds) : cm_Ex l g 1 0 0 mJ0_coder 0 [.retAddr (10 + i)] [] I L R ds Q := by
  refine x_gsC qJ0_coder_0 gJ0_38 ?_
  refine x_if_eq_f (tgt := 13) qJ0_coder_3 (by omega) (by decide) ?_
  refine x_aldn qJ0_coder_6 rfl trivial ?_
  refine x_getC qJ0_coder_7 hi gJ0_15 ?_
  refine x_goto (tgt := 14) qJ0_coder_10 (by omega) ?_
  refine x_iret qJ0_coder_14 rfl rfl ?_
  exact hQ
theorem c_J0_length {i : Nat} (hi : i < 8) (hQ : Q (some (.int (nI (tyn i).length))) I L R ds) : cm_Ex l g 2 0 0 mJ0_length 0 [.retAddr (10 + i)] [] I L R ds Q := by
  refine x_aldn qJ0_length_0 rfl trivial ?_
  refine x_getV qJ0_length_1 hi gJ0_9 ?_
  refine x_slen qJ0_length_4 hi ?_
  refine x_aldn qJ0_length_5 rfl trivial ?_
  refine x_cT0 (d' := 1) qJ0_length_6 cJ0_335 rfl hi rfl rfl (Nat.le_of_ble_eq_true rfl) (Nat.le_of_ble_eq_true rfl) (by decide) ?_
  refine c_J0_coder hi ?_
  refine x_ishr qJ0_length_9 ?_
  refine x_iret qJ0_length_10 rfl rfl ?_
  rw [ty_shr i hi]; exact hQ
theorem c_J0_charAt {i k : Nat} (hi : i < 8) (hk : k < (tyn i).length) (hQ : Q (some (.int (nI ((tyn i).getD k 0)))) I L R ds) : cm_Ex l g 4 0 0 mJ0_charAt 0 [.retAddr (10 + i), .int (nI k)] [] I L R ds Q := by
  refine x_aldn qJ0_charAt_0 rfl trivial ?_
  refine x_cT0 (d' := 1) qJ0_charAt_1 cJ0_492 rfl hi rfl rfl (Nat.le_of_ble_eq_true rfl) (Nat.le_of_ble_eq_true rfl) (by decide) ?_
  refine c_J0_isLatin1 hi ?_
  refine x_if_eq_f (tgt := 16) qJ0_charAt_4 (by omega) (by decide) ?_
  refine x_aldn qJ0_charAt_7 rfl trivial ?_
  refine x_getV qJ0_charAt_8 hi gJ0_9 ?_
  refine x_ildn qJ0_charAt_11 rfl ?_
  refine x_cS2 (d' := 3) qJ0_charAt_12 cJ0_495 rfl rfl (Nat.le_of_ble_eq_true rfl) (Nat.le_of_ble_eq_true rfl) (by decide) ?_
  refine c_J1_charAt hi hk ?_
  refine x_iret qJ0_charAt_15 rfl (ty_get i hi k hk).2 ?_
  exact hQ
end K11
