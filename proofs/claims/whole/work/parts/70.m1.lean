/-! the reference: what it holds -/
def sbI (b : Nat) : Int32 := if b < 128 then nI b else zI ((b : Int) - 256)
def rtk (t : Nat) : Int32 := if t = 5033 then -33 else if t = 5038 then -38 else if t = 5124 then -124 else nI t
def b2I (b : Bool) : Int32 := if b then nI 1 else nI 0
/-- the things -/
def MH (n : Nat) (kd mm : Nat → Nat) (I : cm_I) : Prop := n ≤ 4 ∧ okm mm n ∧ (∀ i, i < n → kd i < 7) ∧ wys mm n ≤ 64 ∧ I 73 0 = nI n ∧ I 73 1 = nI (wys mm n) ∧ ∀ i, i < n → I 74 i = nI (kd i) ∧ I 75 i = nI (mm i)
def MX (len : Nat) (tx : Nat → Nat) (I : cm_I) : Prop := I 73 6 = nI len ∧ len ≤ 100 ∧ ∀ p, p < len → I 76 p = sbI (tx p) ∧ tx p < 256
/-- a clause at its place c of house h -/
def MC (h c : Nat) (cl : Cls) (I : cm_I) : Prop := I 78 c = nI cl.1 ∧ cl.1 < 4 ∧ (cl.1 ≤ 1 → I 79 c = nI cl.2.1 ∧ cl.2.1 < 16) ∧ (cl.1 ≠ 2 → I 80 c = nI cl.2.2.1 ∧ cl.2.2.2 = []) ∧ cl.2.2.1 ≤ 999 ∧ (cl.1 = 2 → ∃ o, I 81 c = nI o ∧ I 82 c = nI (o + cl.2.2.2.length) ∧ 100 * h ≤ o ∧ o + cl.2.2.2.length ≤ 100 * h + 100 ∧ (∀ j t, cl.2.2.2[j]? = some t → I 83 (o + j) = rtk t) ∧ (∀ t, t ∈ cl.2.2.2 → t < 5000 ∨ t = 5033 ∨ t = 5038 ∨ t = 5124) ∧ okr cl.2.2.2 0 ∧ hgt cl.2.2.2 0 = 1 ∧ ∀ h, h + 11 ≤ 24 → okr cl.2.2.2 h ∧ hgt cl.2.2.2 h = h + 1)
def MHS (h : Nat) (cs : List Cls) (I : cm_I) : Prop := I 77 h = nI cs.length ∧ cs.length ≤ 12 ∧ ∀ i cl, cs[i]? = some cl → MC h (12 * h + i) cl I
def MMT (k o len : Nat) (wt : Nat → Nat) (cell : Nat) (I : cm_I) : Prop := I cell k = nI len ∧ len ≤ 12 ∧ ∀ i, i < len → I (cell - 1) (o + i) = nI (wt i) ∧ wt i ≤ 9999
def MIMG (im : IM) (hs : List (List Cls)) (I : cm_I) : Prop := match im with
  | none => I 73 35 = 0
  | some (a, x, b, y, z) => I 73 35 = 1 ∧ MMT 0 0 a x 100 I ∧ MMT 1 12 b y 100 I ∧ I 73 36 = hxI z ∧ (z < hs.length ∨ z = 6)
def MTR (s : List Nat) (I : cm_I) : Prop := I 73 39 = nI s.length ∧ ∀ i, i < s.length → i < 20 → I 101 i = nI (s.getD i 0)
def MTP (tp : TP) (I : cm_I) (L : cm_L) : Prop := ∀ p, p < 6 → (tp p).1 ≤ 5 ∧ (tp p).2.1 ≤ 60 ∧ ((tp p).1 = 0 → (tp p).2.1 = 0) ∧ I 102 p = tsI (tp p).1 ∧ I 103 p = nI (tp p).2.1 ∧ ∀ j, j < 60 → L 104 (60 * p + j) = (tp p).2.2 j
def MI (n : Nat) (kd mm : Nat → Nat) (len : Nat) (tx : Nat → Nat) (hs : List (List Cls)) (hx c1 : Nat) (w1 : Nat → Nat) (c2 : Nat) (w2 : Nat → Nat) (im : IM) (s : List Nat) (tp : TP) (I : cm_I) (L : cm_L) : Prop :=
  MH n kd mm I ∧ MX len tx I ∧ (I 73 4 = nI hs.length ∧ hs.length ≤ 6 ∧ ∀ h cs, hs[h]? = some cs → MHS h cs I) ∧ ((hx < hs.length ∨ hx = 6) ∧ I 73 5 = hxI hx) ∧ MMT 0 0 c1 w1 86 I ∧ MMT 1 12 c2 w2 86 I ∧ MIMG im hs I ∧ (MTR s I ∧ s.length < 1000) ∧ MTP tp I L
def KC (I I' : cm_I) (L L' : cm_L) : Prop := ∀ b, (b < 73 ∨ 106 ≤ b) → I' b = I b ∧ L' b = L b
theorem KC_rfl {I : cm_I} {L : cm_L} : KC I I L L := fun _ _ => ⟨rfl, rfl⟩
theorem KC_tr {I I' I'' : cm_I} {L L' L'' : cm_L} (a : KC I I' L L') (b : KC I' I'' L' L'') : KC I I'' L L'' := fun c h => ⟨(b c h).1.trans (a c h).1, (b c h).2.trans (a c h).2⟩
def KMQ (Q : cm_Post) (a : Value) (u : Nat) (hr tl : Option Nat) (P : cm_I → cm_L → Prop) (I : cm_I) (L : cm_L) : Prop := ∀ I' L', P I' L' → KC I I' L L' → Q (some a) I' L' (RR u hr tl) (DD u)
theorem sbI_dec : ∀ b, b < 256 → (Int8.ofNat b).toInt32 = sbI b := by decide +kernel
theorem byte_sb {x : Int32} {k : Nat} (hk : k < 4) : (x >>> (nI (8 * k) &&& 31)).toInt8.toInt32 = sbI (byt x k) := by
  rw [← sbI_dec _ (byt_lt x k)]
  congr 1
  apply Int8.toBitVec_inj.mp
  apply BitVec.eq_of_getLsbD_eq
  intro i hi
  rw [Int32.toBitVec_toInt8, Int32.toBitVec_shiftRight, BitVec.getLsbD_signExtend]
  have hs := si31 (8 * k) (by omega)
  unfold BitVec.sshiftRight'
  rw [hs, BitVec.getLsbD_sshiftRight]
  have e1 : (Int8.ofNat (byt x k)).toBitVec = BitVec.ofNat 8 (byt x k) := rfl
  rw [e1, BitVec.getLsbD_ofNat]
  have e2 : byt x k = x.toBitVec.toNat / 2 ^ (8 * k) % 2 ^ 8 := by
    unfold byt
    rw [show (2 : Nat) ^ (8 * k) = 256 ^ k by rw [Nat.pow_mul], show (2 : Nat) ^ 8 = 256 from rfl]
    rfl
  rw [e2, Nat.testBit_mod_two_pow, Nat.testBit_div_two_pow]
  have h1 : i < 32 := by omega
  have h2 : 8 * k + i < 32 := by omega
  have h3 : ¬ 32 ≤ i := by omega
  simp only [hi, h1, h2, h3, decide_true, decide_false, Bool.true_and, Bool.not_false, if_true]
  rw [Nat.add_comm i]
  rfl
theorem nx_i1 {m a b : Nat} : nx 1 m a b = true ↔ a = b ∨ b = 0 ∨ a = 0 := by simp [nx, or_assoc]
theorem nx_i2 {m a b : Nat} : nx 2 m a b = true ↔ a = b ∨ b = (a + 1) % m := by simp [nx]
theorem nx_i3 {m a b : Nat} : nx 3 m a b = true ↔ (a = 0 ∧ (b = 0 ∨ b + 1 = m)) ∨ (a ≠ 0 ∧ (a = b ∨ b + 1 = a ∨ b = 0)) := by
  by_cases h : a = 0
  · subst h; simp [nx]
  · simp [nx, h, or_assoc]
theorem nx_i4 {m a b : Nat} : nx 4 m a b = true ↔ a = b ∨ b = 0 ∨ a = 0 ∨ b + 1 = a ∨ b = a + 1 := by simp [nx, or_assoc]
theorem nx_i5 {m a b : Nat} : nx 5 m a b = true ↔ a ≠ 0 ∧ b ≠ 0 := by simp [nx]
theorem nx_i6 {m a b : Nat} : nx 6 m a b = true ↔ a ≠ 0 ∧ a = b := by simp [nx]
section M1
variable {l : Launch} {g : cm_G} {I : cm_I} {L : cm_L} {hr tl : Option Nat} {Q : cm_Post} {n u : Nat} {kd mm : Nat → Nat}
theorem c_X12_in {R : cm_R} {ds : cm_Ds} {v a b : Int32} (ht : a.toInt ≤ v.toInt ∧ v.toInt ≤ b.toInt → Q (some (.int 1)) I L R ds) (hf : ¬ (a.toInt ≤ v.toInt ∧ v.toInt ≤ b.toInt) → Q (some (.int 0)) I L R ds) : cm_Ex l g 1 0 0 mX12_in 0 [.ref 73, .int v, .int a, .int b] [] I L R ds Q := by
  refine x_ildn qX12_in_0 rfl ?_
  refine x_ildn qX12_in_1 rfl ?_
  refine x_icmp_lt (tgt := 14) qX12_in_2 (by omega) (fun h2 => ?_) (fun h2 => ?_)
  · refine x_iconst (v := 0) qX12_in_14 rfl ?_
    refine x_iret qX12_in_15 rfl rfl ?_
    simp only [Int32.le_iff_toInt_le, Int32.lt_iff_toInt_lt] at *
    first | exact ht (by omega) | exact hf (by omega)
  · refine x_ildn qX12_in_5 rfl ?_
    refine x_ildn qX12_in_6 rfl ?_
    refine x_icmp_gt (tgt := 14) qX12_in_7 (by omega) (fun h7 => ?_) (fun h7 => ?_)
    · refine x_iconst (v := 0) qX12_in_14 rfl ?_
      refine x_iret qX12_in_15 rfl rfl ?_
      simp only [Int32.le_iff_toInt_le, Int32.lt_iff_toInt_lt] at *
      first | exact ht (by omega) | exact hf (by omega)
    · refine x_iconst (v := 1) qX12_in_10 rfl ?_
      refine x_goto (tgt := 15) qX12_in_11 (by omega) ?_
      refine x_iret qX12_in_15 rfl rfl ?_
      simp only [Int32.le_iff_toInt_le, Int32.lt_iff_toInt_lt] at *
      first | exact ht (by omega) | exact hf (by omega)
theorem n1_toInt {k : Nat} (h : k < 1000000) : (nI k - nI 1).toInt = (k : Int) - 1 := by
  cases k with
  | zero => decide
  | succ k => rw [pk_sub (by omega), nI_toInt (by omega)]; omega
theorem c_X12_isThing {t : Int32} (H : MH n kd mm I) (ht : inB t n = true → Q (some (.int 1)) I L (RR u hr tl) (DD u)) (hf : inB t n = false → Q (some (.int 0)) I L (RR u hr tl) (DD u)) : cm_Ex l g 2 0 0 mX12_isThing 0 [.ref 73, .int t] [] I L (RR u hr tl) (DD u) Q := by
  obtain ⟨h4, ho, hk, h64, h0, h1, hi⟩ := id H
  have e0 : (nI 0).toInt = 0 := by decide
  have e1 := n1_toInt (k := n) (by omega)
  refine x_aldn qX12_isThing_0 rfl trivial ?_
  refine x_ildn qX12_isThing_1 rfl ?_
  refine x_iconst (v := nI 0) qX12_isThing_2 rfl ?_
  refine x_aldn qX12_isThing_3 rfl trivial ?_
  refine x_getIe qX12_isThing_4 fX12_7 rfl h0 ?_
  refine x_iconst (v := nI 1) qX12_isThing_7 rfl ?_
  refine x_isub qX12_isThing_8 ?_
  refine x_cV3 (d' := 1) qX12_isThing_9 cX12_149 rfl ⟨_, rfl, rfl⟩ rfl rfl (Nat.le_of_ble_eq_true rfl) (Nat.le_of_ble_eq_true rfl) (by decide) ?_
  refine c_X12_in (fun h => ?_) (fun h => ?_)
  · refine x_iret qX12_isThing_12 rfl rfl ?_
    exact ht (inB_iff.mpr (by omega))
  · refine x_iret qX12_isThing_12 rfl rfl ?_
    refine hf ?_
    cases hb : inB t n with
    | false => rfl
    | true => have := inB_iff.mp hb; omega
theorem c_X12_isUnder {R : cm_R} {ds : cm_Ds} {a b : Nat} (ha : a < 7) (hb : b < 7) (hQ : Q (some (.int (b2I (undr a b)))) I L R ds) : cm_Ex l g 1 0 0 mX12_isUnder 0 [.ref 73, .int (nI a), .int (nI b)] [] I L R ds Q := by
  have ht : undr a b = true → Q (some (.int (nI 1))) I L R ds := fun h => by rw [h] at hQ; exact hQ
  have hf : undr a b = false → Q (some (.int (nI 0))) I L R ds := fun h => by rw [h] at hQ; exact hQ
  have d : ∀ a, a < 7 → ∀ b, b < 7 → (undr a b = true ↔ (b = 0 ∨ a = b ∨ (b = 1 ∧ a = 4) ∨ (b = 5 ∧ a = 6))) := by decide
  have d2 := d a ha b hb
  have no : ¬ (b = 0 ∨ a = b ∨ (b = 1 ∧ a = 4) ∨ (b = 5 ∧ a = 6)) → undr a b = false := fun h => by
    cases hu : undr a b with
    | false => rfl
    | true => exact absurd (d2.mp hu) h
  refine x_ildn qX12_isUnder_0 rfl ?_
  refine x_if_eq_n (tgt := 30) qX12_isUnder_1 (by omega) (by omega) (fun h1 => ?_) (fun h1 => ?_)
  · refine x_iconst (v := nI 1) qX12_isUnder_30 rfl ?_
    refine x_goto (tgt := 35) qX12_isUnder_31 (by omega) ?_
    refine x_iret qX12_isUnder_35 rfl rfl ?_
    first | exact ht (d2.mpr (by omega)) | exact hf (no (by omega))
  · refine x_ildn qX12_isUnder_4 rfl ?_
    refine x_ildn qX12_isUnder_5 rfl ?_
    refine x_icmp_eq_n (tgt := 30) qX12_isUnder_6 (by omega) (by omega) (by omega) (fun h6 => ?_) (fun h6 => ?_)
    · refine x_iconst (v := nI 1) qX12_isUnder_30 rfl ?_
      refine x_goto (tgt := 35) qX12_isUnder_31 (by omega) ?_
      refine x_iret qX12_isUnder_35 rfl rfl ?_
      first | exact ht (d2.mpr (by omega)) | exact hf (no (by omega))
    · refine x_ildn qX12_isUnder_9 rfl ?_
      refine x_iconst (v := nI 1) qX12_isUnder_10 rfl ?_
      refine x_icmp_ne_n (tgt := 19) qX12_isUnder_11 (by omega) (by omega) (by omega) (fun h11 => ?_) (fun h11 => ?_)
      · refine x_ildn qX12_isUnder_19 rfl ?_
        refine x_iconst (v := nI 5) qX12_isUnder_20 rfl ?_
        refine x_icmp_ne_n (tgt := 34) qX12_isUnder_21 (by omega) (by omega) (by omega) (fun h21 => ?_) (fun h21 => ?_)
        · refine x_iconst (v := nI 0) qX12_isUnder_34 rfl ?_
          refine x_iret qX12_isUnder_35 rfl rfl ?_
          first | exact ht (d2.mpr (by omega)) | exact hf (no (by omega))
        · refine x_ildn qX12_isUnder_24 rfl ?_
          refine x_bipush (v := nI 6) qX12_isUnder_25 rfl ?_
          refine x_icmp_ne_n (tgt := 34) qX12_isUnder_27 (by omega) (by omega) (by omega) (fun h27 => ?_) (fun h27 => ?_)
          · refine x_iconst (v := nI 0) qX12_isUnder_34 rfl ?_
            refine x_iret qX12_isUnder_35 rfl rfl ?_
            first | exact ht (d2.mpr (by omega)) | exact hf (no (by omega))
          · refine x_iconst (v := nI 1) qX12_isUnder_30 rfl ?_
            refine x_goto (tgt := 35) qX12_isUnder_31 (by omega) ?_
            refine x_iret qX12_isUnder_35 rfl rfl ?_
            first | exact ht (d2.mpr (by omega)) | exact hf (no (by omega))
      · refine x_ildn qX12_isUnder_14 rfl ?_
        refine x_iconst (v := nI 4) qX12_isUnder_15 rfl ?_
        refine x_icmp_eq_n (tgt := 30) qX12_isUnder_16 (by omega) (by omega) (by omega) (fun h16 => ?_) (fun h16 => ?_)
        · refine x_iconst (v := nI 1) qX12_isUnder_30 rfl ?_
          refine x_goto (tgt := 35) qX12_isUnder_31 (by omega) ?_
          refine x_iret qX12_isUnder_35 rfl rfl ?_
          first | exact ht (d2.mpr (by omega)) | exact hf (no (by omega))
        · refine x_ildn qX12_isUnder_19 rfl ?_
          refine x_iconst (v := nI 5) qX12_isUnder_20 rfl ?_
          refine x_icmp_ne_n (tgt := 34) qX12_isUnder_21 (by omega) (by omega) (by omega) (fun h21 => ?_) (fun h21 => ?_)
          · refine x_iconst (v := nI 0) qX12_isUnder_34 rfl ?_
            refine x_iret qX12_isUnder_35 rfl rfl ?_
            first | exact ht (d2.mpr (by omega)) | exact hf (no (by omega))
          · refine x_ildn qX12_isUnder_24 rfl ?_
            refine x_bipush (v := nI 6) qX12_isUnder_25 rfl ?_
            refine x_icmp_ne_n (tgt := 34) qX12_isUnder_27 (by omega) (by omega) (by omega) (fun h27 => ?_) (fun h27 => ?_)
            · refine x_iconst (v := nI 0) qX12_isUnder_34 rfl ?_
              refine x_iret qX12_isUnder_35 rfl rfl ?_
              first | exact ht (d2.mpr (by omega)) | exact hf (no (by omega))
            · refine x_iconst (v := nI 1) qX12_isUnder_30 rfl ?_
              refine x_goto (tgt := 35) qX12_isUnder_31 (by omega) ?_
              refine x_iret qX12_isUnder_35 rfl rfl ?_
              first | exact ht (d2.mpr (by omega)) | exact hf (no (by omega))
theorem c_X12_isNext {t a b : Nat} (H : MH n kd mm I) (ht4 : t < n) (ha : a < mm t) (hb : b < mm t) (hQ : Q (some (.int (b2I (nx (kd t) (mm t) a b)))) I L (RR u hr tl) (DD u)) : cm_Ex l g 1 0 0 mX12_isNext 0 [.ref 73, .int (nI t), .int (nI a), .int (nI b)] [] I L (RR u hr tl) (DD u) Q := by
  obtain ⟨h4, ho, hk, h64, h0, h1, hi⟩ := id H
  have hm := ho t ht4
  have hk7 := hk t ht4
  have hkd := (hi t ht4).1
  have hmm := (hi t ht4).2
  generalize kd t = j at *
  generalize mm t = m at *
  have ht : nx j m a b = true → Q (some (.int (nI 1))) I L (RR u hr tl) (DD u) := fun h => by rw [h] at hQ; exact hQ
  have hf : ¬ nx j m a b = true → Q (some (.int (nI 0))) I L (RR u hr tl) (DD u) := fun h => by rw [Bool.not_eq_true] at h; rw [h] at hQ; exact hQ
  refine x_aldn qX12_isNext_0 rfl trivial ?_
  refine x_getR qX12_isNext_1 fX12_16 rfl rfl ?_
  refine x_ildn qX12_isNext_4 rfl ?_
  refine x_ialde qX12_isNext_5 dd_74 rfl (by omega) (by decide) hkd ?_
  rcases (by omega : j = 0 ∨ j = 1 ∨ j = 2 ∨ j = 3 ∨ j = 4 ∨ j = 5 ∨ j = 6) with rfl | rfl | rfl | rfl | rfl | rfl | rfl
  · refine x_tbl (tgt := 44) (off := 38) qX12_isNext_6 0 rfl (by decide) rfl (by omega) ?_
    refine x_iconst (v := nI 1) qX12_isNext_44 rfl ?_
    refine x_iret qX12_isNext_45 rfl rfl ?_
    exact ht rfl
  · refine x_tbl (tgt := 46) (off := 40) qX12_isNext_6 1 rfl (by decide) rfl (by omega) ?_
    refine x_ildn qX12_isNext_46 rfl ?_
    refine x_ildn qX12_isNext_47 rfl ?_
    refine x_icmp_eq_n (tgt := 59) qX12_isNext_48 (by omega) (by omega) (by omega) (fun h48 => ?_) (fun h48 => ?_)
    · refine x_iconst (v := nI 1) qX12_isNext_59 rfl ?_
      refine x_goto (tgt := 64) qX12_isNext_60 (by omega) ?_
      refine x_iret qX12_isNext_64 rfl rfl ?_
      first | exact ht (nx_i1.mpr (by omega)) | exact hf (fun h => by have := nx_i1.mp h; omega)
    · refine x_ildn qX12_isNext_51 rfl ?_
      refine x_if_eq_n (tgt := 59) qX12_isNext_52 (by omega) (by omega) (fun h52 => ?_) (fun h52 => ?_)
      · refine x_iconst (v := nI 1) qX12_isNext_59 rfl ?_
        refine x_goto (tgt := 64) qX12_isNext_60 (by omega) ?_
        refine x_iret qX12_isNext_64 rfl rfl ?_
        first | exact ht (nx_i1.mpr (by omega)) | exact hf (fun h => by have := nx_i1.mp h; omega)
      · refine x_ildn qX12_isNext_55 rfl ?_
        refine x_if_ne_n (tgt := 63) qX12_isNext_56 (by omega) (by omega) (fun h56 => ?_) (fun h56 => ?_)
        · refine x_iconst (v := nI 0) qX12_isNext_63 rfl ?_
          refine x_iret qX12_isNext_64 rfl rfl ?_
          first | exact ht (nx_i1.mpr (by omega)) | exact hf (fun h => by have := nx_i1.mp h; omega)
        · refine x_iconst (v := nI 1) qX12_isNext_59 rfl ?_
          refine x_goto (tgt := 64) qX12_isNext_60 (by omega) ?_
          refine x_iret qX12_isNext_64 rfl rfl ?_
          first | exact ht (nx_i1.mpr (by omega)) | exact hf (fun h => by have := nx_i1.mp h; omega)
  · have hr := Nat.mod_lt (a + 1) (show m > 0 by omega)
    generalize hq : (a + 1) % m = q at hr
    refine x_tbl (tgt := 65) (off := 59) qX12_isNext_6 2 rfl (by decide) rfl (by omega) ?_
    refine x_ildn qX12_isNext_65 rfl ?_
    refine x_ildn qX12_isNext_66 rfl ?_
    refine x_icmp_eq_n (tgt := 84) qX12_isNext_67 (by omega) (by omega) (by omega) (fun h67 => ?_) (fun h67 => ?_)
    · refine x_iconst (v := nI 1) qX12_isNext_84 rfl ?_
      refine x_goto (tgt := 89) qX12_isNext_85 (by omega) ?_
      refine x_iret qX12_isNext_89 rfl rfl ?_
      first | exact ht (nx_i2.mpr (by omega)) | exact hf (fun h => by have := nx_i2.mp h; omega)
    · refine x_ildn qX12_isNext_70 rfl ?_
      refine x_ildn qX12_isNext_71 rfl ?_
      refine x_iconst (v := nI 1) qX12_isNext_72 rfl ?_
      refine x_iadd_n qX12_isNext_73 ?_
      refine x_aldn qX12_isNext_74 rfl trivial ?_
      refine x_getR qX12_isNext_75 fX12_20 rfl rfl ?_
      refine x_ildn qX12_isNext_78 rfl ?_
      refine x_ialde qX12_isNext_79 dd_75 rfl (by omega) (by decide) hmm ?_
      refine x_irem_n qX12_isNext_80 (by omega) (by omega) (by omega) (x_topI (congrArg nI hq) ?_)
      refine x_icmp_ne_n (tgt := 88) qX12_isNext_81 (by omega) (by omega) (by omega) (fun h81 => ?_) (fun h81 => ?_)
      · refine x_iconst (v := nI 0) qX12_isNext_88 rfl ?_
        refine x_iret qX12_isNext_89 rfl rfl ?_
        first | exact ht (nx_i2.mpr (by omega)) | exact hf (fun h => by have := nx_i2.mp h; omega)
      · refine x_iconst (v := nI 1) qX12_isNext_84 rfl ?_
        refine x_goto (tgt := 89) qX12_isNext_85 (by omega) ?_
        refine x_iret qX12_isNext_89 rfl rfl ?_
        first | exact ht (nx_i2.mpr (by omega)) | exact hf (fun h => by have := nx_i2.mp h; omega)
  · refine x_tbl (tgt := 90) (off := 84) qX12_isNext_6 3 rfl (by decide) rfl (by omega) ?_
    refine x_ildn qX12_isNext_90 rfl ?_
    refine x_if_ne_n (tgt := 118) qX12_isNext_91 (by omega) (by omega) (fun h91 => ?_) (fun h91 => ?_)
    · refine x_ildn qX12_isNext_118 rfl ?_
      refine x_ildn qX12_isNext_119 rfl ?_
      refine x_icmp_eq_n (tgt := 134) qX12_isNext_120 (by omega) (by omega) (by omega) (fun h120 => ?_) (fun h120 => ?_)
      · refine x_iconst (v := nI 1) qX12_isNext_134 rfl ?_
        refine x_goto (tgt := 139) qX12_isNext_135 (by omega) ?_
        refine x_iret qX12_isNext_139 rfl rfl ?_
        first | exact ht (nx_i3.mpr (by omega)) | exact hf (fun h => by have := nx_i3.mp h; omega)
      · refine x_ildn qX12_isNext_123 rfl ?_
        refine x_ildn qX12_isNext_124 rfl ?_
        refine x_iconst (v := nI 1) qX12_isNext_125 rfl ?_
        refine x_isub_n qX12_isNext_126 (by omega) ?_
        refine x_icmp_eq_n (tgt := 134) qX12_isNext_127 (by omega) (by omega) (by omega) (fun h127 => ?_) (fun h127 => ?_)
        · refine x_iconst (v := nI 1) qX12_isNext_134 rfl ?_
          refine x_goto (tgt := 139) qX12_isNext_135 (by omega) ?_
          refine x_iret qX12_isNext_139 rfl rfl ?_
          first | exact ht (nx_i3.mpr (by omega)) | exact hf (fun h => by have := nx_i3.mp h; omega)
        · refine x_ildn qX12_isNext_130 rfl ?_
          refine x_if_ne_n (tgt := 138) qX12_isNext_131 (by omega) (by omega) (fun h131 => ?_) (fun h131 => ?_)
          · refine x_iconst (v := nI 0) qX12_isNext_138 rfl ?_
            refine x_iret qX12_isNext_139 rfl rfl ?_
            first | exact ht (nx_i3.mpr (by omega)) | exact hf (fun h => by have := nx_i3.mp h; omega)
          · refine x_iconst (v := nI 1) qX12_isNext_134 rfl ?_
            refine x_goto (tgt := 139) qX12_isNext_135 (by omega) ?_
            refine x_iret qX12_isNext_139 rfl rfl ?_
            first | exact ht (nx_i3.mpr (by omega)) | exact hf (fun h => by have := nx_i3.mp h; omega)
    · refine x_ildn qX12_isNext_94 rfl ?_
      refine x_if_eq_n (tgt := 110) qX12_isNext_95 (by omega) (by omega) (fun h95 => ?_) (fun h95 => ?_)
      · refine x_iconst (v := nI 1) qX12_isNext_110 rfl ?_
        refine x_goto (tgt := 139) qX12_isNext_111 (by omega) ?_
        refine x_iret qX12_isNext_139 rfl rfl ?_
        first | exact ht (nx_i3.mpr (by omega)) | exact hf (fun h => by have := nx_i3.mp h; omega)
      · refine x_ildn qX12_isNext_98 rfl ?_
        refine x_aldn qX12_isNext_99 rfl trivial ?_
        refine x_getR qX12_isNext_100 fX12_20 rfl rfl ?_
        refine x_ildn qX12_isNext_103 rfl ?_
        refine x_ialde qX12_isNext_104 dd_75 rfl (by omega) (by decide) hmm ?_
        refine x_iconst (v := nI 1) qX12_isNext_105 rfl ?_
        refine x_isub_n qX12_isNext_106 (by omega) ?_
        refine x_icmp_ne_n (tgt := 114) qX12_isNext_107 (by omega) (by omega) (by omega) (fun h107 => ?_) (fun h107 => ?_)
        · refine x_iconst (v := nI 0) qX12_isNext_114 rfl ?_
          refine x_goto (tgt := 139) qX12_isNext_115 (by omega) ?_
          refine x_iret qX12_isNext_139 rfl rfl ?_
          first | exact ht (nx_i3.mpr (by omega)) | exact hf (fun h => by have := nx_i3.mp h; omega)
        · refine x_iconst (v := nI 1) qX12_isNext_110 rfl ?_
          refine x_goto (tgt := 139) qX12_isNext_111 (by omega) ?_
          refine x_iret qX12_isNext_139 rfl rfl ?_
          first | exact ht (nx_i3.mpr (by omega)) | exact hf (fun h => by have := nx_i3.mp h; omega)
  · refine x_tbl (tgt := 140) (off := 134) qX12_isNext_6 4 rfl (by decide) rfl (by omega) ?_
    refine x_ildn qX12_isNext_140 rfl ?_
    refine x_ildn qX12_isNext_141 rfl ?_
    refine x_icmp_eq_n (tgt := 167) qX12_isNext_142 (by omega) (by omega) (by omega) (fun h142 => ?_) (fun h142 => ?_)
    · refine x_iconst (v := nI 1) qX12_isNext_167 rfl ?_
      refine x_goto (tgt := 172) qX12_isNext_168 (by omega) ?_
      refine x_iret qX12_isNext_172 rfl rfl ?_
      first | exact ht (nx_i4.mpr (by omega)) | exact hf (fun h => by have := nx_i4.mp h; omega)
    · refine x_ildn qX12_isNext_145 rfl ?_
      refine x_if_eq_n (tgt := 167) qX12_isNext_146 (by omega) (by omega) (fun h146 => ?_) (fun h146 => ?_)
      · refine x_iconst (v := nI 1) qX12_isNext_167 rfl ?_
        refine x_goto (tgt := 172) qX12_isNext_168 (by omega) ?_
        refine x_iret qX12_isNext_172 rfl rfl ?_
        first | exact ht (nx_i4.mpr (by omega)) | exact hf (fun h => by have := nx_i4.mp h; omega)
      · refine x_ildn qX12_isNext_149 rfl ?_
        refine x_if_eq_n (tgt := 167) qX12_isNext_150 (by omega) (by omega) (fun h150 => ?_) (fun h150 => ?_)
        · refine x_iconst (v := nI 1) qX12_isNext_167 rfl ?_
          refine x_goto (tgt := 172) qX12_isNext_168 (by omega) ?_
          refine x_iret qX12_isNext_172 rfl rfl ?_
          first | exact ht (nx_i4.mpr (by omega)) | exact hf (fun h => by have := nx_i4.mp h; omega)
        · refine x_ildn qX12_isNext_153 rfl ?_
          refine x_ildn qX12_isNext_154 rfl ?_
          refine x_iconst (v := nI 1) qX12_isNext_155 rfl ?_
          refine x_isub_n qX12_isNext_156 (by omega) ?_
          refine x_icmp_eq_n (tgt := 167) qX12_isNext_157 (by omega) (by omega) (by omega) (fun h157 => ?_) (fun h157 => ?_)
          · refine x_iconst (v := nI 1) qX12_isNext_167 rfl ?_
            refine x_goto (tgt := 172) qX12_isNext_168 (by omega) ?_
            refine x_iret qX12_isNext_172 rfl rfl ?_
            first | exact ht (nx_i4.mpr (by omega)) | exact hf (fun h => by have := nx_i4.mp h; omega)
          · refine x_ildn qX12_isNext_160 rfl ?_
            refine x_ildn qX12_isNext_161 rfl ?_
            refine x_iconst (v := nI 1) qX12_isNext_162 rfl ?_
            refine x_iadd_n qX12_isNext_163 ?_
            refine x_icmp_ne_n (tgt := 171) qX12_isNext_164 (by omega) (by omega) (by omega) (fun h164 => ?_) (fun h164 => ?_)
            · refine x_iconst (v := nI 0) qX12_isNext_171 rfl ?_
              refine x_iret qX12_isNext_172 rfl rfl ?_
              first | exact ht (nx_i4.mpr (by omega)) | exact hf (fun h => by have := nx_i4.mp h; omega)
            · refine x_iconst (v := nI 1) qX12_isNext_167 rfl ?_
              refine x_goto (tgt := 172) qX12_isNext_168 (by omega) ?_
              refine x_iret qX12_isNext_172 rfl rfl ?_
              first | exact ht (nx_i4.mpr (by omega)) | exact hf (fun h => by have := nx_i4.mp h; omega)
  · refine x_tbl (tgt := 173) (off := 167) qX12_isNext_6 5 rfl (by decide) rfl (by omega) ?_
    refine x_ildn qX12_isNext_173 rfl ?_
    refine x_if_eq_n (tgt := 185) qX12_isNext_174 (by omega) (by omega) (fun h174 => ?_) (fun h174 => ?_)
    · refine x_iconst (v := nI 0) qX12_isNext_185 rfl ?_
      refine x_iret qX12_isNext_186 rfl rfl ?_
      first | exact ht (nx_i5.mpr (by omega)) | exact hf (fun h => by have := nx_i5.mp h; omega)
    · refine x_ildn qX12_isNext_177 rfl ?_
      refine x_if_eq_n (tgt := 185) qX12_isNext_178 (by omega) (by omega) (fun h178 => ?_) (fun h178 => ?_)
      · refine x_iconst (v := nI 0) qX12_isNext_185 rfl ?_
        refine x_iret qX12_isNext_186 rfl rfl ?_
        first | exact ht (nx_i5.mpr (by omega)) | exact hf (fun h => by have := nx_i5.mp h; omega)
      · refine x_iconst (v := nI 1) qX12_isNext_181 rfl ?_
        refine x_goto (tgt := 186) qX12_isNext_182 (by omega) ?_
        refine x_iret qX12_isNext_186 rfl rfl ?_
        first | exact ht (nx_i5.mpr (by omega)) | exact hf (fun h => by have := nx_i5.mp h; omega)
  · refine x_tblOut (tgt := 187) qX12_isNext_6 (by decide) (by omega) ?_
    refine x_ildn qX12_isNext_187 rfl ?_
    refine x_if_eq_n (tgt := 200) qX12_isNext_188 (by omega) (by omega) (fun h188 => ?_) (fun h188 => ?_)
    · refine x_iconst (v := nI 0) qX12_isNext_200 rfl ?_
      refine x_iret qX12_isNext_201 rfl rfl ?_
      first | exact ht (nx_i6.mpr (by omega)) | exact hf (fun h => by have := nx_i6.mp h; omega)
    · refine x_ildn qX12_isNext_191 rfl ?_
      refine x_ildn qX12_isNext_192 rfl ?_
      refine x_icmp_ne_n (tgt := 200) qX12_isNext_193 (by omega) (by omega) (by omega) (fun h193 => ?_) (fun h193 => ?_)
      · refine x_iconst (v := nI 0) qX12_isNext_200 rfl ?_
        refine x_iret qX12_isNext_201 rfl rfl ?_
        first | exact ht (nx_i6.mpr (by omega)) | exact hf (fun h => by have := nx_i6.mp h; omega)
      · refine x_iconst (v := nI 1) qX12_isNext_196 rfl ?_
        refine x_goto (tgt := 201) qX12_isNext_197 (by omega) ?_
        refine x_iret qX12_isNext_201 rfl rfl ?_
        first | exact ht (nx_i6.mpr (by omega)) | exact hf (fun h => by have := nx_i6.mp h; omega)
end M1
