/-! leaves: Kinds, Thing, Text, Trace, Tape, Meter -/
section K1
variable {l : Launch} {g : cm_G} {I : cm_I} {L : cm_L} {R : cm_R} {ds : cm_Ds} {Q : cm_Post}
theorem c_X4_isKind {k : Int32} (ht : 0 ≤ k.toInt ∧ k.toInt < 7 → Q (some (.int 1)) I L R ds) (hf : ¬ (0 ≤ k.toInt ∧ k.toInt < 7) → Q (some (.int 0)) I L R ds) : cm_Ex l g 1 0 0 mX4_isKind 0 [.int k] [] I L R ds Q := by
  have e0 : (0 : Int32).toInt = 0 := rfl
  have e7 : (7 : Int32).toInt = 7 := rfl
  refine x_ildn qX4_isKind_0 rfl ?_
  refine x_if_lt (tgt := 14) qX4_isKind_1 (by decide) (fun h1 => ?_) (fun h1 => ?_)
  · refine x_iconst (v := 0) qX4_isKind_14 rfl ?_
    refine x_iret qX4_isKind_15 rfl rfl ?_
    simp only [Int32.le_iff_toInt_le, Int32.lt_iff_toInt_lt, e0, e7] at *
    first | exact ht (by omega) | exact hf (by omega)
  · refine x_ildn qX4_isKind_4 rfl ?_
    refine x_bipush (v := 7) qX4_isKind_5 rfl ?_
    refine x_icmp_ge (tgt := 14) qX4_isKind_7 (by decide) (fun h7 => ?_) (fun h7 => ?_)
    · refine x_iconst (v := 0) qX4_isKind_14 rfl ?_
      refine x_iret qX4_isKind_15 rfl rfl ?_
      simp only [Int32.le_iff_toInt_le, Int32.lt_iff_toInt_lt, e0, e7] at *
      first | exact ht (by omega) | exact hf (by omega)
    · refine x_iconst (v := 1) qX4_isKind_10 rfl ?_
      refine x_goto (tgt := 15) qX4_isKind_11 (by decide) ?_
      refine x_iret qX4_isKind_15 rfl rfl ?_
      simp only [Int32.le_iff_toInt_le, Int32.lt_iff_toInt_lt, e0, e7] at *
      first | exact ht (by omega) | exact hf (by omega)
theorem c_X9_hasState {a : Nat} {k : Int32} (hd : ds[a]? = some (.inr 7)) (ht : 0 ≤ k.toInt ∧ k.toInt < (I a 2).toInt → Q (some (.int 1)) I L R ds) (hf : ¬ (0 ≤ k.toInt ∧ k.toInt < (I a 2).toInt) → Q (some (.int 0)) I L R ds) : cm_Ex l g 1 0 0 mX9_hasState 0 [.ref a, .int k] [] I L R ds Q := by
  have e0 : (0 : Int32).toInt = 0 := rfl
  refine x_ildn qX9_hasState_0 rfl ?_
  refine x_if_lt (tgt := 16) qX9_hasState_1 (by decide) (fun h1 => ?_) (fun h1 => ?_)
  · refine x_iconst (v := 0) qX9_hasState_16 rfl ?_
    refine x_iret qX9_hasState_17 rfl rfl ?_
    simp only [Int32.le_iff_toInt_le, Int32.lt_iff_toInt_lt, e0] at *
    first | exact ht (by omega) | exact hf (by omega)
  · refine x_ildn qX9_hasState_4 rfl ?_
    refine x_aldn qX9_hasState_5 rfl trivial ?_
    refine x_getI qX9_hasState_6 fX9_16 hd ?_
    refine x_icmp_ge (tgt := 16) qX9_hasState_9 (by decide) (fun h9 => ?_) (fun h9 => ?_)
    · refine x_iconst (v := 0) qX9_hasState_16 rfl ?_
      refine x_iret qX9_hasState_17 rfl rfl ?_
      simp only [Int32.le_iff_toInt_le, Int32.lt_iff_toInt_lt, e0] at *
      first | exact ht (by omega) | exact hf (by omega)
    · refine x_iconst (v := 1) qX9_hasState_12 rfl ?_
      refine x_goto (tgt := 17) qX9_hasState_13 (by decide) ?_
      refine x_iret qX9_hasState_17 rfl rfl ?_
      simp only [Int32.le_iff_toInt_le, Int32.lt_iff_toInt_lt, e0] at *
      first | exact ht (by omega) | exact hf (by omega)
end K1
