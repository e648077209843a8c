/-! leaves: Kinds, Thing, Text, Trace, Tape, Meter -/
/-- which state follows which (kind, how many states, from, to) -/
def nx (j m a b : Nat) : Bool := match j with
  | 0 => true
  | 1 => a == b || b == 0 || a == 0
  | 2 => a == b || b == (a + 1) % m
  | 3 => if a == 0 then b == 0 || b + 1 == m else a == b || b + 1 == a || b == 0
  | 4 => a == b || b == 0 || a == 0 || b + 1 == a || b == a + 1
  | 5 => a != 0 && b != 0
  | _ => a != 0 && a == b
/-- whether a kind lies under another -/
def undr (k b : Nat) : Bool := b == 0 || k == b || b == 1 && k == 4 || b == 5 && k == 6
section K1
variable {l : Launch} {g : cm_G} {I : cm_I} {L : cm_L} {R : cm_R} {ds : cm_Ds} {Q : cm_Post}
theorem c_X4_isKind {k : Int32} (ht : 0 ≤ k.toInt ∧ k.toInt < 7 → Q (some (.int 1)) I L R ds) (hf : ¬ (0 ≤ k.toInt ∧ k.toInt < 7) → Q (some (.int 0)) I L R ds) : cm_Ex l g 1 0 0 mX4_isKind 0 [.int k] [] I L R ds Q := by
  have e0 : (0 : Int32).toInt = 0 := rfl
  have e7 : (7 : Int32).toInt = 7 := rfl
  refine x_ildn qX4_isKind_0 rfl ?_
  refine x_if_lt (tgt := 14) qX4_isKind_1 (by omega) (fun h1 => ?_) (fun h1 => ?_)
  · refine x_iconst (v := 0) qX4_isKind_14 rfl ?_
    refine x_iret qX4_isKind_15 rfl rfl ?_
    simp only [Int32.le_iff_toInt_le, Int32.lt_iff_toInt_lt, e0, e7] at *
    first | exact ht (by omega) | exact hf (by omega)
  · refine x_ildn qX4_isKind_4 rfl ?_
    refine x_bipush (v := 7) qX4_isKind_5 rfl ?_
    refine x_icmp_ge (tgt := 14) qX4_isKind_7 (by omega) (fun h7 => ?_) (fun h7 => ?_)
    · refine x_iconst (v := 0) qX4_isKind_14 rfl ?_
      refine x_iret qX4_isKind_15 rfl rfl ?_
      simp only [Int32.le_iff_toInt_le, Int32.lt_iff_toInt_lt, e0, e7] at *
      first | exact ht (by omega) | exact hf (by omega)
    · refine x_iconst (v := 1) qX4_isKind_10 rfl ?_
      refine x_goto (tgt := 15) qX4_isKind_11 (by omega) ?_
      refine x_iret qX4_isKind_15 rfl rfl ?_
      simp only [Int32.le_iff_toInt_le, Int32.lt_iff_toInt_lt, e0, e7] at *
      first | exact ht (by omega) | exact hf (by omega)
theorem c_X4_mayFollowSwitch {a b : Nat} (ha : a < 4) (hb : b < 4) (ht : nx 1 0 a b = true → Q (some (.int 1)) I L R ds) (hf : ¬ nx 1 0 a b = true → Q (some (.int 0)) I L R ds) : cm_Ex l g 1 0 0 mX4_mayFollowSwitch 0 [.int (nI a), .int (nI b)] [] I L R ds Q := by
  refine x_ildn qX4_mayFollowSwitch_0 rfl ?_
  refine x_ildn qX4_mayFollowSwitch_1 rfl ?_
  refine x_icmp_eq_n (tgt := 13) qX4_mayFollowSwitch_2 (by omega) (by omega) (by omega) (fun h2 => ?_) (fun h2 => ?_)
  · refine x_iconst (v := nI 1) qX4_mayFollowSwitch_13 rfl ?_
    refine x_goto (tgt := 18) qX4_mayFollowSwitch_14 (by omega) ?_
    refine x_iret qX4_mayFollowSwitch_18 rfl rfl ?_
    first | exact ht (by simp [nx]; omega) | exact hf (by simp [nx]; omega)
  · refine x_ildn qX4_mayFollowSwitch_5 rfl ?_
    refine x_if_eq_n (tgt := 13) qX4_mayFollowSwitch_6 (by omega) (by omega) (fun h6 => ?_) (fun h6 => ?_)
    · refine x_iconst (v := nI 1) qX4_mayFollowSwitch_13 rfl ?_
      refine x_goto (tgt := 18) qX4_mayFollowSwitch_14 (by omega) ?_
      refine x_iret qX4_mayFollowSwitch_18 rfl rfl ?_
      first | exact ht (by simp [nx]; omega) | exact hf (by simp [nx]; omega)
    · refine x_ildn qX4_mayFollowSwitch_9 rfl ?_
      refine x_if_ne_n (tgt := 17) qX4_mayFollowSwitch_10 (by omega) (by omega) (fun h10 => ?_) (fun h10 => ?_)
      · refine x_iconst (v := nI 0) qX4_mayFollowSwitch_17 rfl ?_
        refine x_iret qX4_mayFollowSwitch_18 rfl rfl ?_
        first | exact ht (by simp [nx]; omega) | exact hf (by simp [nx]; omega)
      · refine x_iconst (v := nI 1) qX4_mayFollowSwitch_13 rfl ?_
        refine x_goto (tgt := 18) qX4_mayFollowSwitch_14 (by omega) ?_
        refine x_iret qX4_mayFollowSwitch_18 rfl rfl ?_
        first | exact ht (by simp [nx]; omega) | exact hf (by simp [nx]; omega)
theorem c_X4_above {k : Int32} (hQ : Q (some (.int (if 0 ≤ k.toInt ∧ k.toInt < 7 then (cm_tab 0).getD k.toInt.toNat 0 else -1))) I L R ds) : cm_Ex l g 2 0 0 mX4_above 0 [.int k] [] I L R ds Q := by
  refine x_ildn qX4_above_0 rfl ?_
  refine x_cS1 (d' := 1) qX4_above_1 cX4_9 rfl rfl (Nat.le_of_ble_eq_true rfl) (Nat.le_of_ble_eq_true rfl) (by decide) ?_
  refine c_X4_isKind (fun h1 => ?_) (fun h1 => ?_)
  · refine x_if_eq_f (tgt := 15) qX4_above_4 (by omega) (by decide) ?_
    refine x_gsA qX4_above_7 gX4_13 ?_
    refine x_ildn qX4_above_10 rfl ?_
    refine x_tald (k := k.toInt.toNat) qX4_above_11 (Or.inl rfl) (Int32.toInt_inj.mp (by rw [nI_toInt (by omega)]; omega)) (by show _ < 7; omega) ?_
    refine x_goto (tgt := 16) qX4_above_12 (by omega) ?_
    refine x_iret qX4_above_16 rfl rfl ?_
    first | (rw [if_pos h1] at hQ; exact hQ) | (rw [if_neg h1] at hQ; exact hQ)
  · refine x_if_eq_t (tgt := 15) qX4_above_4 (by omega) (by decide) ?_
    refine x_iconst (v := -1) qX4_above_15 rfl ?_
    refine x_iret qX4_above_16 rfl rfl ?_
    first | (rw [if_pos h1] at hQ; exact hQ) | (rw [if_neg h1] at hQ; exact hQ)
/-- up the tree of kinds, n steps at most -/
def upK : Nat → Int32 → Int32 → Bool
  | 0, a, b => a == b
  | n + 1, a, b => a == b || upK n (if 0 ≤ a.toInt ∧ a.toInt < 7 then (cm_tab 0).getD a.toInt.toNat 0 else -1) b
theorem upK_undr : ∀ a, a < 7 → ∀ b, b < 7 → upK 7 (nI a) (nI b) = undr a b := by decide +kernel
theorem c_X4_isUnder {a b : Nat} (ha : a < 7) (hb : b < 7) (ht : undr a b = true → Q (some (.int 1)) I L R ds) (hf : ¬ undr a b = true → Q (some (.int 0)) I L R ds) : cm_Ex l g 3 0 0 mX4_isUnder 0 [.int (nI a), .int (nI b), .float 0, .float 0] [] I L R ds Q := by
  rw [← upK_undr a ha b hb] at ht hf
  have loop : ∀ n s (x : Int32), s + n = 7 → (upK n x (nI b) = true → Q (some (.int 1)) I L R ds) → (¬ upK n x (nI b) = true → Q (some (.int 0)) I L R ds) → cm_Ex l g 3 0 0 mX4_isUnder 4 [.int (nI a), .int (nI b), .int x, .int (nI s)] [] I L R ds Q := by
    intro n
    induction n with
    | zero =>
      intro s x hs ht hf
      have e : s = 7 := by omega
      subst e
      refine x_ildn qX4_isUnder_4 rfl ?_
      refine x_bipush (v := nI 7) qX4_isUnder_5 rfl ?_
      refine x_icmp_ge_nt (tgt := 26) qX4_isUnder_7 (by omega) (by omega) (by omega) (by omega) ?_
      refine x_ildn qX4_isUnder_26 rfl ?_
      refine x_ildn qX4_isUnder_27 rfl ?_
      refine x_icmp_ne (tgt := 35) qX4_isUnder_28 (by omega) (fun h28 => ?_) (fun h28 => ?_)
      · refine x_iconst (v := nI 0) qX4_isUnder_35 rfl ?_
        refine x_iret qX4_isUnder_36 rfl rfl ?_
        first | exact ht (by simp [upK]; assumption) | exact hf (by simp [upK]; assumption)
      · refine x_iconst (v := nI 1) qX4_isUnder_31 rfl ?_
        refine x_goto (tgt := 36) qX4_isUnder_32 (by omega) ?_
        refine x_iret qX4_isUnder_36 rfl rfl ?_
        first | exact ht (by simp [upK]; assumption) | exact hf (by simp [upK]; assumption)
    | succ n ih =>
      intro s x hs ht hf
      refine x_ildn qX4_isUnder_4 rfl ?_
      refine x_bipush (v := nI 7) qX4_isUnder_5 rfl ?_
      refine x_icmp_ge_nf (tgt := 26) qX4_isUnder_7 (by decide) (by omega) (by omega) (by omega) ?_
      refine x_ildn qX4_isUnder_10 rfl ?_
      refine x_ildn qX4_isUnder_11 rfl ?_
      refine x_icmp_eq (tgt := 26) qX4_isUnder_12 (by omega) (fun h12 => ?_) (fun h12 => ?_)
      · refine x_ildn qX4_isUnder_26 rfl ?_
        refine x_ildn qX4_isUnder_27 rfl ?_
        refine x_icmp_ne_f (tgt := 35) qX4_isUnder_28 (by omega) h12 ?_
        refine x_iconst (v := nI 1) qX4_isUnder_31 rfl ?_
        refine x_goto (tgt := 36) qX4_isUnder_32 (by omega) ?_
        refine x_iret qX4_isUnder_36 rfl rfl ?_
        exact ht (by simp [upK, h12])
      · refine x_ildn qX4_isUnder_15 rfl ?_
        refine x_cS1 (d' := 2) qX4_isUnder_16 cX4_17 rfl rfl (Nat.le_of_ble_eq_true rfl) (Nat.le_of_ble_eq_true rfl) (by decide) ?_
        refine c_X4_above ?_
        refine x_ist2 qX4_isUnder_19 (by decide) rfl ?_
        refine x_iinc3 qX4_isUnder_20 (by decide) (cm_inc _) rfl ?_
        refine x_goto (tgt := 4) qX4_isUnder_23 (by omega) ?_
        exact ih (s + 1) _ (by omega) (fun h => ht (by simp [upK]; exact Or.inr (by simpa using h))) (fun h => hf (by simp only [upK, Bool.or_eq_true, beq_iff_eq]; intro h2; rcases h2 with h2 | h2; exact h12 h2; exact h h2))
  refine x_ildn qX4_isUnder_0 rfl ?_
  refine x_ist2 qX4_isUnder_1 (by decide) rfl ?_
  refine x_iconst (v := nI 0) qX4_isUnder_2 rfl ?_
  refine x_ist3 qX4_isUnder_3 (by decide) rfl ?_
  exact loop 7 0 (nI a) rfl ht hf
theorem c_X4_mayFollow {j m a b : Nat} (hj : j < 7) (hm : m ≤ 4) (hm2 : 2 ≤ m) (ha : a < m) (hb : b < m) (ht : nx j m a b = true → Q (some (.int 1)) I L R ds) (hf : ¬ nx j m a b = true → Q (some (.int 0)) I L R ds) : cm_Ex l g 2 0 0 mX4_mayFollow 0 [.int (nI j), .int (nI m), .int (nI a), .int (nI b)] [] I L R ds Q := by
  refine x_ildn qX4_mayFollow_0 rfl ?_
  rcases (by omega : j = 0 ∨ j = 1 ∨ j = 2 ∨ j = 3 ∨ j = 4 ∨ j = 5 ∨ j = 6) with rfl | rfl | rfl | rfl | rfl | rfl | rfl
  · refine x_tblOut (tgt := 165) qX4_mayFollow_1 (by decide) (by omega) ?_
    refine x_iconst (v := nI 1) qX4_mayFollow_165 rfl ?_
    refine x_iret qX4_mayFollow_166 rfl rfl ?_
    exact ht rfl
  · refine x_tbl (tgt := 40) (off := 39) qX4_mayFollow_1 0 rfl (by decide) rfl (by omega) ?_
    refine x_ildn qX4_mayFollow_40 rfl ?_
    refine x_ildn qX4_mayFollow_41 rfl ?_
    refine x_cS2 (d' := 1) qX4_mayFollow_42 cX4_21 rfl rfl (Nat.le_of_ble_eq_true rfl) (Nat.le_of_ble_eq_true rfl) (by decide) ?_
    refine c_X4_mayFollowSwitch (by omega) (by omega) (fun h => ?_) (fun h => ?_)
    · refine x_iret qX4_mayFollow_45 rfl rfl ?_
      first | exact ht h | exact hf h
    · refine x_iret qX4_mayFollow_45 rfl rfl ?_
      first | exact ht h | exact hf h
  · refine x_tbl (tgt := 46) (off := 45) qX4_mayFollow_1 1 rfl (by decide) rfl (by omega) ?_
    have em : (a + 1) % m = if a + 1 = m then 0 else a + 1 := by
      split
      · rename_i h; rw [h, Nat.mod_self]
      · exact Nat.mod_eq_of_lt (by omega)
    refine x_ildn qX4_mayFollow_46 rfl ?_
    refine x_ildn qX4_mayFollow_47 rfl ?_
    refine x_icmp_eq_n (tgt := 69) qX4_mayFollow_48 (by omega) (by omega) (by omega) (fun h48 => ?_) (fun h48 => ?_)
    · refine x_iconst (v := nI 1) qX4_mayFollow_69 rfl ?_
      refine x_goto (tgt := 74) qX4_mayFollow_70 (by omega) ?_
      refine x_iret qX4_mayFollow_74 rfl rfl ?_
      first | exact ht (by simp [nx, em]; split <;> omega) | exact hf (by simp [nx, em]; split <;> omega)
    · refine x_ildn qX4_mayFollow_51 rfl ?_
      refine x_ildn qX4_mayFollow_52 rfl ?_
      refine x_ildn qX4_mayFollow_53 rfl ?_
      refine x_iconst (v := nI 1) qX4_mayFollow_54 rfl ?_
      refine x_isub_n qX4_mayFollow_55 (by omega) ?_
      refine x_icmp_ne_n (tgt := 63) qX4_mayFollow_56 (by omega) (by omega) (by omega) (fun h56 => ?_) (fun h56 => ?_)
      · refine x_ildn qX4_mayFollow_63 rfl ?_
        refine x_iconst (v := nI 1) qX4_mayFollow_64 rfl ?_
        refine x_iadd_n qX4_mayFollow_65 ?_
        refine x_icmp_ne_n (tgt := 73) qX4_mayFollow_66 (by omega) (by omega) (by omega) (fun h66 => ?_) (fun h66 => ?_)
        · refine x_iconst (v := nI 0) qX4_mayFollow_73 rfl ?_
          refine x_iret qX4_mayFollow_74 rfl rfl ?_
          first | exact ht (by simp [nx, em]; split <;> omega) | exact hf (by simp [nx, em]; split <;> omega)
        · refine x_iconst (v := nI 1) qX4_mayFollow_69 rfl ?_
          refine x_goto (tgt := 74) qX4_mayFollow_70 (by omega) ?_
          refine x_iret qX4_mayFollow_74 rfl rfl ?_
          first | exact ht (by simp [nx, em]; split <;> omega) | exact hf (by simp [nx, em]; split <;> omega)
      · refine x_iconst (v := nI 0) qX4_mayFollow_59 rfl ?_
        refine x_goto (tgt := 66) qX4_mayFollow_60 (by omega) ?_
        refine x_icmp_ne_n (tgt := 73) qX4_mayFollow_66 (by omega) (by omega) (by omega) (fun h66 => ?_) (fun h66 => ?_)
        · refine x_iconst (v := nI 0) qX4_mayFollow_73 rfl ?_
          refine x_iret qX4_mayFollow_74 rfl rfl ?_
          first | exact ht (by simp [nx, em]; split <;> omega) | exact hf (by simp [nx, em]; split <;> omega)
        · refine x_iconst (v := nI 1) qX4_mayFollow_69 rfl ?_
          refine x_goto (tgt := 74) qX4_mayFollow_70 (by omega) ?_
          refine x_iret qX4_mayFollow_74 rfl rfl ?_
          first | exact ht (by simp [nx, em]; split <;> omega) | exact hf (by simp [nx, em]; split <;> omega)
  · refine x_tbl (tgt := 75) (off := 74) qX4_mayFollow_1 2 rfl (by decide) rfl (by omega) ?_
    refine x_ildn qX4_mayFollow_75 rfl ?_
    refine x_ildn qX4_mayFollow_76 rfl ?_
    refine x_icmp_eq (tgt := 102) qX4_mayFollow_77 (by omega) (fun h77 => ?_) (fun h77 => ?_)
    · have e := (nI_eq (by omega) (by omega)).mp h77
      refine x_iconst (v := nI 1) qX4_mayFollow_102 rfl ?_
      refine x_goto (tgt := 107) qX4_mayFollow_103 (by omega) ?_
      refine x_iret qX4_mayFollow_107 rfl rfl ?_
      exact ht (by simp [nx]; split <;> omega)
    · have e : b ≠ a := fun h => h77 (by rw [h])
      refine x_ildn qX4_mayFollow_80 rfl ?_
      refine x_ildn qX4_mayFollow_81 rfl ?_
      refine x_iconst (v := nI 1) qX4_mayFollow_82 rfl ?_
      refine x_isub qX4_mayFollow_83 ?_
      by_cases h0 : a = 0
      · subst h0
        refine x_icmp_eq_f (tgt := 102) qX4_mayFollow_84 (by decide) (fun h => ?_) ?_
        · have := congrArg Int32.toInt h
          rw [nI_toInt (by omega)] at this
          have e2 : (nI 0 - nI 1).toInt = -1 := by decide
          omega
        refine x_ildn qX4_mayFollow_87 rfl ?_
        refine x_if_eq_n (tgt := 102) qX4_mayFollow_88 (by omega) (by omega) (fun h88 => ?_) (fun h88 => ?_)
        · refine x_iconst (v := nI 1) qX4_mayFollow_102 rfl ?_
          refine x_goto (tgt := 107) qX4_mayFollow_103 (by omega) ?_
          refine x_iret qX4_mayFollow_107 rfl rfl ?_
          first | exact ht (by simp [nx]; omega) | exact hf (by simp [nx]; omega)
        · refine x_ildn qX4_mayFollow_91 rfl ?_
          refine x_if_ne_n (tgt := 106) qX4_mayFollow_92 (by omega) (by omega) (fun h92 => ?_) (fun h92 => ?_)
          · refine x_iconst (v := nI 0) qX4_mayFollow_106 rfl ?_
            refine x_iret qX4_mayFollow_107 rfl rfl ?_
            first | exact ht (by simp [nx]; omega) | exact hf (by simp [nx]; omega)
          · refine x_ildn qX4_mayFollow_95 rfl ?_
            refine x_ildn qX4_mayFollow_96 rfl ?_
            refine x_iconst (v := nI 1) qX4_mayFollow_97 rfl ?_
            refine x_isub_n qX4_mayFollow_98 (by omega) ?_
            refine x_icmp_ne_n (tgt := 106) qX4_mayFollow_99 (by omega) (by omega) (by omega) (fun h99 => ?_) (fun h99 => ?_)
            · refine x_iconst (v := nI 0) qX4_mayFollow_106 rfl ?_
              refine x_iret qX4_mayFollow_107 rfl rfl ?_
              first | exact ht (by simp [nx]; omega) | exact hf (by simp [nx]; omega)
            · refine x_iconst (v := nI 1) qX4_mayFollow_102 rfl ?_
              refine x_goto (tgt := 107) qX4_mayFollow_103 (by omega) ?_
              refine x_iret qX4_mayFollow_107 rfl rfl ?_
              first | exact ht (by simp [nx]; omega) | exact hf (by simp [nx]; omega)
      · rw [pk_sub (by omega : 1 ≤ a)]
        refine x_icmp_eq_n (tgt := 102) qX4_mayFollow_84 (by omega) (by omega) (by omega) (fun h84 => ?_) (fun h84 => ?_)
        · refine x_iconst (v := nI 1) qX4_mayFollow_102 rfl ?_
          refine x_goto (tgt := 107) qX4_mayFollow_103 (by omega) ?_
          refine x_iret qX4_mayFollow_107 rfl rfl ?_
          first | exact ht (by simp [nx, h0]; omega) | exact hf (by simp [nx, h0]; omega)
        · refine x_ildn qX4_mayFollow_87 rfl ?_
          refine x_if_eq_n (tgt := 102) qX4_mayFollow_88 (by omega) (by omega) (fun h88 => ?_) (fun h88 => ?_)
          · refine x_iconst (v := nI 1) qX4_mayFollow_102 rfl ?_
            refine x_goto (tgt := 107) qX4_mayFollow_103 (by omega) ?_
            refine x_iret qX4_mayFollow_107 rfl rfl ?_
            first | exact ht (by simp [nx, h0]; omega) | exact hf (by simp [nx, h0]; omega)
          · refine x_ildn qX4_mayFollow_91 rfl ?_
            refine x_if_ne_n (tgt := 106) qX4_mayFollow_92 (by omega) (by omega) (fun h92 => ?_) (fun h92 => ?_)
            · refine x_iconst (v := nI 0) qX4_mayFollow_106 rfl ?_
              refine x_iret qX4_mayFollow_107 rfl rfl ?_
              first | exact ht (by simp [nx, h0]; omega) | exact hf (by simp [nx, h0]; omega)
            · refine x_ildn qX4_mayFollow_95 rfl ?_
              refine x_ildn qX4_mayFollow_96 rfl ?_
              refine x_iconst (v := nI 1) qX4_mayFollow_97 rfl ?_
              refine x_isub_n qX4_mayFollow_98 (by omega) ?_
              refine x_icmp_ne_n (tgt := 106) qX4_mayFollow_99 (by omega) (by omega) (by omega) (fun h99 => ?_) (fun h99 => ?_)
              · refine x_iconst (v := nI 0) qX4_mayFollow_106 rfl ?_
                refine x_iret qX4_mayFollow_107 rfl rfl ?_
                first | exact ht (by simp [nx, h0]; omega) | exact hf (by simp [nx, h0]; omega)
              · refine x_iconst (v := nI 1) qX4_mayFollow_102 rfl ?_
                refine x_goto (tgt := 107) qX4_mayFollow_103 (by omega) ?_
                refine x_iret qX4_mayFollow_107 rfl rfl ?_
                first | exact ht (by simp [nx, h0]; omega) | exact hf (by simp [nx, h0]; omega)
  · refine x_tbl (tgt := 108) (off := 107) qX4_mayFollow_1 3 rfl (by decide) rfl (by omega) ?_
    have sub : ¬ nx 1 0 a b = true → cm_Ex l g 2 0 0 mX4_mayFollow 116 [.int (nI 4), .int (nI m), .int (nI a), .int (nI b)] [] I L R ds Q := by
      intro h
      simp [nx] at h
      refine x_ildn qX4_mayFollow_116 rfl ?_
      refine x_ildn qX4_mayFollow_117 rfl ?_
      refine x_iconst (v := nI 1) qX4_mayFollow_118 rfl ?_
      by_cases h0 : a = 0
      · omega
      · refine x_isub_n qX4_mayFollow_119 (by omega) ?_
        refine x_icmp_eq_n (tgt := 130) qX4_mayFollow_120 (by omega) (by omega) (by omega) (fun h120 => ?_) (fun h120 => ?_)
        · refine x_iconst (v := nI 1) qX4_mayFollow_130 rfl ?_
          refine x_goto (tgt := 135) qX4_mayFollow_131 (by omega) ?_
          refine x_iret qX4_mayFollow_135 rfl rfl ?_
          first | exact ht (by simp [nx]; omega) | exact hf (by simp [nx]; omega)
        · refine x_ildn qX4_mayFollow_123 rfl ?_
          refine x_ildn qX4_mayFollow_124 rfl ?_
          refine x_iconst (v := nI 1) qX4_mayFollow_125 rfl ?_
          refine x_iadd_n qX4_mayFollow_126 ?_
          refine x_icmp_ne_n (tgt := 134) qX4_mayFollow_127 (by omega) (by omega) (by omega) (fun h127 => ?_) (fun h127 => ?_)
          · refine x_iconst (v := nI 0) qX4_mayFollow_134 rfl ?_
            refine x_iret qX4_mayFollow_135 rfl rfl ?_
            first | exact ht (by simp [nx]; omega) | exact hf (by simp [nx]; omega)
          · refine x_iconst (v := nI 1) qX4_mayFollow_130 rfl ?_
            refine x_goto (tgt := 135) qX4_mayFollow_131 (by omega) ?_
            refine x_iret qX4_mayFollow_135 rfl rfl ?_
            first | exact ht (by simp [nx]; omega) | exact hf (by simp [nx]; omega)
    refine x_ildn qX4_mayFollow_108 rfl ?_
    refine x_ildn qX4_mayFollow_109 rfl ?_
    refine x_cS2 (d' := 1) qX4_mayFollow_110 cX4_21 rfl rfl (Nat.le_of_ble_eq_true rfl) (Nat.le_of_ble_eq_true rfl) (by decide) ?_
    refine c_X4_mayFollowSwitch (by omega) (by omega) (fun h => ?_) (fun h => ?_)
    · refine x_if_ne_t (tgt := 130) qX4_mayFollow_113 (by omega) (by decide) ?_
      refine x_iconst (v := nI 1) qX4_mayFollow_130 rfl ?_
      refine x_goto (tgt := 135) qX4_mayFollow_131 (by omega) ?_
      refine x_iret qX4_mayFollow_135 rfl rfl ?_
      exact ht (by simp [nx] at h ⊢; omega)
    · refine x_if_ne_f (tgt := 130) qX4_mayFollow_113 (by omega) (by decide) ?_
      exact sub h
  · refine x_tbl (tgt := 136) (off := 135) qX4_mayFollow_1 4 rfl (by decide) rfl (by omega) ?_
    refine x_ildn qX4_mayFollow_136 rfl ?_
    refine x_if_eq_n (tgt := 148) qX4_mayFollow_137 (by omega) (by omega) (fun h137 => ?_) (fun h137 => ?_)
    · refine x_iconst (v := nI 0) qX4_mayFollow_148 rfl ?_
      refine x_iret qX4_mayFollow_149 rfl rfl ?_
      first | exact ht (by simp [nx]; omega) | exact hf (by simp [nx]; omega)
    · refine x_ildn qX4_mayFollow_140 rfl ?_
      refine x_if_eq_n (tgt := 148) qX4_mayFollow_141 (by omega) (by omega) (fun h141 => ?_) (fun h141 => ?_)
      · refine x_iconst (v := nI 0) qX4_mayFollow_148 rfl ?_
        refine x_iret qX4_mayFollow_149 rfl rfl ?_
        first | exact ht (by simp [nx]; omega) | exact hf (by simp [nx]; omega)
      · refine x_iconst (v := nI 1) qX4_mayFollow_144 rfl ?_
        refine x_goto (tgt := 149) qX4_mayFollow_145 (by omega) ?_
        refine x_iret qX4_mayFollow_149 rfl rfl ?_
        first | exact ht (by simp [nx]; omega) | exact hf (by simp [nx]; omega)
  · refine x_tbl (tgt := 150) (off := 149) qX4_mayFollow_1 5 rfl (by decide) rfl (by omega) ?_
    refine x_ildn qX4_mayFollow_150 rfl ?_
    refine x_if_eq_n (tgt := 163) qX4_mayFollow_151 (by omega) (by omega) (fun h151 => ?_) (fun h151 => ?_)
    · refine x_iconst (v := nI 0) qX4_mayFollow_163 rfl ?_
      refine x_iret qX4_mayFollow_164 rfl rfl ?_
      first | exact ht (by simp [nx]; omega) | exact hf (by simp [nx]; omega)
    · refine x_ildn qX4_mayFollow_154 rfl ?_
      refine x_ildn qX4_mayFollow_155 rfl ?_
      refine x_icmp_ne_n (tgt := 163) qX4_mayFollow_156 (by omega) (by omega) (by omega) (fun h156 => ?_) (fun h156 => ?_)
      · refine x_iconst (v := nI 0) qX4_mayFollow_163 rfl ?_
        refine x_iret qX4_mayFollow_164 rfl rfl ?_
        first | exact ht (by simp [nx]; omega) | exact hf (by simp [nx]; omega)
      · refine x_iconst (v := nI 1) qX4_mayFollow_159 rfl ?_
        refine x_goto (tgt := 164) qX4_mayFollow_160 (by omega) ?_
        refine x_iret qX4_mayFollow_164 rfl rfl ?_
        first | exact ht (by simp [nx]; omega) | exact hf (by simp [nx]; omega)
end K1
