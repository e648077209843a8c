/-! Long.bitCount: its contract -/
def tn (x : Int64) : Nat := x.toBitVec.toNat
theorem tn_lt (x : Int64) : tn x < 18446744073709551616 := x.toBitVec.isLt
theorem tn_add {x y : Int64} (h : tn x + tn y < 18446744073709551616) : tn (x + y) = tn x + tn y := by
  unfold tn at *
  rw [Int64.toBitVec_add, BitVec.toNat_add, Nat.mod_eq_of_lt h]
theorem tn_sub {x y : Int64} (h : tn y ≤ tn x) : tn (x - y) = tn x - tn y := by
  unfold tn at *
  rw [Int64.toBitVec_sub, BitVec.toNat_sub_of_le (BitVec.le_def.mpr h)]
theorem tn_and (x y : Int64) : tn (x &&& y) = tn x &&& tn y := by
  unfold tn
  rw [Int64.toBitVec_and, BitVec.toNat_and]
theorem tn_ushr {x : Int64} {k : Nat} (hk : k < 64) : tn ((x.toUInt64 >>> ((nI k).toInt64.toUInt64 &&& Int64.toUInt64 63)).toInt64) = tn x / 2 ^ k := by
  unfold tn
  rw [UInt64.toBitVec_toInt64, UInt64.toBitVec_shiftRight, su63 k hk, BitVec.ushiftRight_eq', BitVec.toNat_ofNat, Nat.mod_eq_of_lt (by omega), BitVec.toNat_ushiftRight, Nat.shiftRight_eq_div_pow, Int64.toBitVec_toUInt64]
theorem tn_low (x : Int64) : x.toInt32 &&& nI 127 = nI (tn x % 128) := by
  have e : x = Int64.ofNat (tn x) := by
    apply Int64.toBitVec_inj.mp
    apply BitVec.eq_of_toNat_eq
    have := tn_lt x
    simp [tn]
  conv => lhs; rw [e]
  rw [Int64.toInt32_ofNat']
  apply Int32.toBitVec_inj.mp
  apply BitVec.eq_of_toNat_eq
  rw [Int32.toBitVec_and, BitVec.toNat_and]
  show (tn x % 4294967296) &&& 127 = (tn x % 128) % 4294967296
  rw [show 127 = 2 ^ 7 - 1 from rfl, Nat.and_two_pow_sub_one_eq_mod, show (2 : Nat) ^ 7 = 128 from rfl]
  omega
theorem pow256 : (256 : Nat) ^ 8 = 18446744073709551616 := by decide
theorem pcb_le (b : Nat) : pcb (b % 256) ≤ 8 := (low3 _ (Nat.mod_lt b (by decide))).2.2.1
theorem cn1 : tn 6148914691236517205 = mk1 8 := by decide +kernel
theorem cn2 : tn 3689348814741910323 = mk2 8 := by decide +kernel
theorem cn3 : tn 1085102592571150095 = mk3 8 := by decide +kernel
def cntB (f : Nat → Bool) (k : Nat) : Nat := sumW (fun w => if f w then 1 else 0) k
section K23
variable {l : Launch} {g : cm_G} {I : cm_I} {L : cm_L} {Q : cm_Post}
theorem c_J13_bitCount {R : cm_R} {ds : cm_Ds} {x : Int64} (hQ : Q (some (.int (nI (cntB (tb x) 64)))) I L R ds) : cm_Ex l g 1 0 0 mJ13_bitCount 0 [.long x, .float 0] [] I L R ds Q := by
  have hx := tn_lt x
  have h8 : ∀ y, pcs 8 y = pcb (y % 256) + 256 * (pcb (y / 256 % 256) + 256 * (pcb (y / 256 / 256 % 256) + 256 * (pcb (y / 256 / 256 / 256 % 256) + 256 * (pcb (y / 256 / 256 / 256 / 256 % 256) + 256 * (pcb (y / 256 / 256 / 256 / 256 / 256 % 256) + 256 * (pcb (y / 256 / 256 / 256 / 256 / 256 / 256 % 256) + 256 * (pcb (y / 256 / 256 / 256 / 256 / 256 / 256 / 256 % 256) + 256 * 0))))))) := fun y => rfl
  have hb : bsm 64 (tn x) = pcb (tn x % 256) + (pcb (tn x / 256 % 256) + (pcb (tn x / 256 / 256 % 256) + (pcb (tn x / 256 / 256 / 256 % 256) + (pcb (tn x / 256 / 256 / 256 / 256 % 256) + (pcb (tn x / 256 / 256 / 256 / 256 / 256 % 256) + (pcb (tn x / 256 / 256 / 256 / 256 / 256 / 256 % 256) + (pcb (tn x / 256 / 256 / 256 / 256 / 256 / 256 / 256 % 256) + 0))))))) := by
    rw [show 64 = 8 + (8 + (8 + (8 + (8 + (8 + (8 + (8 + 0))))))) from rfl]
    iterate 8 rw [bsm_8]
    rfl
  have hF := pcs_eq 8 (tn x) (by rw [pow256]; exact hx)
  have hpf := pcs_fold (pcb_le (tn x)) (pcb_le (tn x / 256)) (pcb_le (tn x / 256 / 256)) (pcb_le (tn x / 256 / 256 / 256)) (pcb_le (tn x / 256 / 256 / 256 / 256)) (pcb_le (tn x / 256 / 256 / 256 / 256 / 256)) (pcb_le (tn x / 256 / 256 / 256 / 256 / 256 / 256)) (pcb_le (tn x / 256 / 256 / 256 / 256 / 256 / 256 / 256)) (h8 (tn x))
  rw [← hF] at hpf
  have ec : cntB (tb x) 64 = bsm 64 (tn x) := (bsm_sum 64 (tn x)).symm
  rw [ec, hb] at hQ
  obtain ⟨q4, q5, q6, q7⟩ := hpf
  generalize ex1 : x - ((x.toUInt64 >>> ((nI 1).toInt64.toUInt64 &&& Int64.toUInt64 63)).toInt64 &&& 6148914691236517205) = x1
  have n1 : tn x1 = pF 8 (tn x) := by
    rw [← ex1]
    have e : tn ((x.toUInt64 >>> ((nI 1).toInt64.toUInt64 &&& Int64.toUInt64 63)).toInt64 &&& 6148914691236517205) = (tn x / 2 &&& mk1 8) := by
      rw [tn_and, tn_ushr (by decide), cn1, Nat.pow_one]
    rw [tn_sub (by rw [e]; exact Nat.le_trans Nat.and_le_left (Nat.div_le_self _ _)), e]
    rfl
  generalize ex2 : (x1 &&& 3689348814741910323) + ((x1.toUInt64 >>> ((nI 2).toInt64.toUInt64 &&& Int64.toUInt64 63)).toInt64 &&& 3689348814741910323) = x2
  have n2 : tn x2 = pG 8 (pF 8 (tn x)) := by
    rw [← ex2]
    have e : tn ((x1.toUInt64 >>> ((nI 2).toInt64.toUInt64 &&& Int64.toUInt64 63)).toInt64 &&& 3689348814741910323) = (tn x1 / 4 &&& mk2 8) := by
      rw [tn_and, tn_ushr (by decide), cn2, show (2 : Nat) ^ 2 = 4 from rfl]
    have e2 : tn (x1 &&& 3689348814741910323) = (tn x1 &&& mk2 8) := by rw [tn_and, cn2]
    have b1 : (tn x1 &&& mk2 8) ≤ mk2 8 := Nat.and_le_right
    have b2 : (tn x1 / 4 &&& mk2 8) ≤ mk2 8 := Nat.and_le_right
    have b3 : mk2 8 + mk2 8 < 18446744073709551616 := by decide +kernel
    rw [tn_add (by rw [e, e2]; exact Nat.lt_of_le_of_lt (Nat.add_le_add b1 b2) b3), e, e2, n1]
    rfl
  generalize ex3 : (x2 + (x2.toUInt64 >>> ((nI 4).toInt64.toUInt64 &&& Int64.toUInt64 63)).toInt64) &&& 1085102592571150095 = x3
  have n3 : tn x3 = pH 8 (pG 8 (pF 8 (tn x))) := by
    rw [← ex3, tn_and, cn3]
    have e : tn ((x2.toUInt64 >>> ((nI 4).toInt64.toUInt64 &&& Int64.toUInt64 63)).toInt64) = tn x2 / 16 := tn_ushr (by decide)
    have b1 : (pF 8 (tn x) &&& mk2 8) ≤ mk2 8 := Nat.and_le_right
    have b2 : (pF 8 (tn x) / 4 &&& mk2 8) ≤ mk2 8 := Nat.and_le_right
    have b3 : mk2 8 + mk2 8 + (mk2 8 + mk2 8) / 16 < 18446744073709551616 := by decide +kernel
    have b4 : tn x2 ≤ mk2 8 + mk2 8 := by rw [n2]; exact Nat.add_le_add b1 b2
    rw [tn_add (by rw [e]; exact Nat.lt_of_le_of_lt (Nat.add_le_add b4 (Nat.div_le_div_right b4)) b3), e, n2]
    rfl
  rw [← n3] at q4 q5 q6 q7
  generalize ex4 : x3 + (x3.toUInt64 >>> ((nI 8).toInt64.toUInt64 &&& Int64.toUInt64 63)).toInt64 = x4
  have n4 : tn x4 = tn x3 + tn x3 / 256 := by
    rw [← ex4]
    have e : tn ((x3.toUInt64 >>> ((nI 8).toInt64.toUInt64 &&& Int64.toUInt64 63)).toInt64) = tn x3 / 256 := tn_ushr (by decide)
    rw [tn_add (by rw [e]; exact q4), e]
  rw [← n4] at q5 q6 q7
  generalize ex5 : x4 + (x4.toUInt64 >>> ((nI 16).toInt64.toUInt64 &&& Int64.toUInt64 63)).toInt64 = x5
  have n5 : tn x5 = tn x4 + tn x4 / 65536 := by
    rw [← ex5]
    have e : tn ((x4.toUInt64 >>> ((nI 16).toInt64.toUInt64 &&& Int64.toUInt64 63)).toInt64) = tn x4 / 65536 := tn_ushr (by decide)
    rw [tn_add (by rw [e]; exact q5), e]
  rw [← n5] at q6 q7
  generalize ex6 : x5 + (x5.toUInt64 >>> ((nI 32).toInt64.toUInt64 &&& Int64.toUInt64 63)).toInt64 = x6
  have n6 : tn x6 = tn x5 + tn x5 / 4294967296 := by
    rw [← ex6]
    have e : tn ((x5.toUInt64 >>> ((nI 32).toInt64.toUInt64 &&& Int64.toUInt64 63)).toInt64) = tn x5 / 4294967296 := tn_ushr (by decide)
    rw [tn_add (by rw [e]; exact q6), e]
  rw [← n6] at q7
  refine x_lldn qJ13_bitCount_0 rfl ?_
  refine x_lldn qJ13_bitCount_1 rfl ?_
  refine x_iconst (v := nI 1) qJ13_bitCount_2 rfl ?_
  refine x_lushr qJ13_bitCount_3 ?_
  refine x_ldc2 qJ13_bitCount_4 vJ13_314 ?_
  refine x_land qJ13_bitCount_7 ?_
  refine x_lsub qJ13_bitCount_8 ?_
  rw [ex1]
  refine x_lst0 qJ13_bitCount_9 (by decide) trivial ?_
  refine x_lldn qJ13_bitCount_10 rfl ?_
  refine x_ldc2 qJ13_bitCount_11 vJ13_316 ?_
  refine x_land qJ13_bitCount_14 ?_
  refine x_lldn qJ13_bitCount_15 rfl ?_
  refine x_iconst (v := nI 2) qJ13_bitCount_16 rfl ?_
  refine x_lushr qJ13_bitCount_17 ?_
  refine x_ldc2 qJ13_bitCount_18 vJ13_316 ?_
  refine x_land qJ13_bitCount_21 ?_
  refine x_ladd qJ13_bitCount_22 ?_
  rw [ex2]
  refine x_lst0 qJ13_bitCount_23 (by decide) trivial ?_
  refine x_lldn qJ13_bitCount_24 rfl ?_
  refine x_lldn qJ13_bitCount_25 rfl ?_
  refine x_iconst (v := nI 4) qJ13_bitCount_26 rfl ?_
  refine x_lushr qJ13_bitCount_27 ?_
  refine x_ladd qJ13_bitCount_28 ?_
  refine x_ldc2 qJ13_bitCount_29 vJ13_318 ?_
  refine x_land qJ13_bitCount_32 ?_
  rw [ex3]
  refine x_lst0 qJ13_bitCount_33 (by decide) trivial ?_
  refine x_lldn qJ13_bitCount_34 rfl ?_
  refine x_lldn qJ13_bitCount_35 rfl ?_
  refine x_bipush (v := nI 8) qJ13_bitCount_36 rfl ?_
  refine x_lushr qJ13_bitCount_38 ?_
  refine x_ladd qJ13_bitCount_39 ?_
  rw [ex4]
  refine x_lst0 qJ13_bitCount_40 (by decide) trivial ?_
  refine x_lldn qJ13_bitCount_41 rfl ?_
  refine x_lldn qJ13_bitCount_42 rfl ?_
  refine x_bipush (v := nI 16) qJ13_bitCount_43 rfl ?_
  refine x_lushr qJ13_bitCount_45 ?_
  refine x_ladd qJ13_bitCount_46 ?_
  rw [ex5]
  refine x_lst0 qJ13_bitCount_47 (by decide) trivial ?_
  refine x_lldn qJ13_bitCount_48 rfl ?_
  refine x_lldn qJ13_bitCount_49 rfl ?_
  refine x_bipush (v := nI 32) qJ13_bitCount_50 rfl ?_
  refine x_lushr qJ13_bitCount_52 ?_
  refine x_ladd qJ13_bitCount_53 ?_
  rw [ex6]
  refine x_lst0 qJ13_bitCount_54 (by decide) trivial ?_
  refine x_lldn qJ13_bitCount_55 rfl ?_
  refine x_l2i qJ13_bitCount_56 ?_
  refine x_bipush (v := nI 127) qJ13_bitCount_57 rfl ?_
  refine x_iand qJ13_bitCount_59 ?_
  rw [tn_low, q7]
  refine x_iret qJ13_bitCount_60 rfl rfl ?_
  simp only [Nat.add_assoc, Nat.add_zero] at hQ ⊢
  exact hQ
end K23
