/-! House: bars -/
/-- tokens: a test is 1000 letter + 100 sign + number; 5033 not, 5038 and, 5124 or -/
def cmpb (s a b : Nat) : Bool := if s = 0 then decide (a < b) else if s = 1 then decide (a = b) else decide (b < a)
def hvl (n : Nat) (mm : Nat → Nat) (f w r : Nat) : Nat := if f = 4 then r else if f < n then dgt mm w f else 0
def tst (n : Nat) (mm : Nat → Nat) (w r tok : Nat) : Bool := cmpb (tok / 100 % 10) (hvl n mm (tok / 1000) w r) (tok % 100)
def cct (tok : Nat) : Nat := (tok % 100 * 3 + tok / 100 % 10) * 5 + tok / 1000
def ctk (tok : Nat) : Int32 := if tok = 5033 then -1 else if tok = 5038 then -2 else if tok = 5124 then -3 else nI (cct tok)
def bstp (v : Nat → Bool) (s : Nat × (Nat → Bool)) (tok : Nat) : Nat × (Nat → Bool) :=
  if tok = 5033 then (s.1, fun j => if j + 1 = s.1 then !s.2 j else s.2 j)
  else if tok = 5038 then (s.1 - 1, fun j => if j + 2 = s.1 then s.2 j && s.2 (j + 1) else s.2 j)
  else if tok = 5124 then (s.1 - 1, fun j => if j + 2 = s.1 then s.2 j || s.2 (j + 1) else s.2 j)
  else (s.1 + 1, fun j => if j = s.1 then v tok else s.2 j)
def bev (v : Nat → Bool) (toks : List Nat) (s : Nat × (Nat → Bool)) : Nat × (Nat → Bool) := toks.foldl (bstp v) s
def hgt : List Nat → Nat → Nat
  | [], h => h
  | t :: ts, h => hgt ts (if t = 5033 then h else if t = 5038 ∨ t = 5124 then h - 1 else h + 1)
def okr : List Nat → Nat → Prop
  | [], _ => True
  | t :: ts, h => if t = 5033 then 1 ≤ h ∧ okr ts h else if t = 5038 ∨ t = 5124 then 2 ≤ h ∧ okr ts (h - 1) else (t / 1000 < 5 ∧ t / 100 % 10 < 3 ∧ h < 24) ∧ okr ts (h + 1)
section K9
variable {l : Launch} {g : cm_G} {I : cm_I} {L : cm_L} {n h : Nat} {hr tl : Option Nat} {Q : cm_Post} {kd mm : Nat → Nat}
theorem c_X1_compares {R : cm_R} {ds : cm_Ds} {a s b : Nat} (ha : a < 1000) (hs : s < 3) (hb : b < 1000) (ht : cmpb s a b = true → Q (some (.int 1)) I L R ds) (hf : ¬ cmpb s a b = true → Q (some (.int 0)) I L R ds) : cm_Ex l g 1 0 0 mX1_compares 0 [.int (nI a), .int (nI s), .int (nI b)] [] I L R ds Q := by
  rcases (by omega : s = 0 ∨ s = 1 ∨ s = 2) with rfl | rfl | rfl
  · refine x_ildn qX1_compares_0 rfl ?_
    refine x_if_ne_f (tgt := 15) qX1_compares_1 (by omega) (by decide) ?_
    refine x_ildn qX1_compares_4 rfl ?_
    refine x_ildn qX1_compares_5 rfl ?_
    refine x_icmp_ge_n (tgt := 13) qX1_compares_6 (by omega) (by omega) (by omega) (fun h6 => ?_) (fun h6 => ?_)
    · refine x_iconst (v := nI 0) qX1_compares_13 rfl ?_
      refine x_iret qX1_compares_14 rfl rfl ?_
      first | exact ht (by simp [cmpb]; omega) | exact hf (by simp [cmpb]; omega)
    · refine x_iconst (v := nI 1) qX1_compares_9 rfl ?_
      refine x_goto (tgt := 14) qX1_compares_10 (by omega) ?_
      refine x_iret qX1_compares_14 rfl rfl ?_
      first | exact ht (by simp [cmpb]; omega) | exact hf (by simp [cmpb]; omega)
  · refine x_ildn qX1_compares_0 rfl ?_
    refine x_if_ne_t (tgt := 15) qX1_compares_1 (by omega) (by decide) ?_
    refine x_ildn qX1_compares_15 rfl ?_
    refine x_iconst (v := nI 1) qX1_compares_16 rfl ?_
    refine x_icmp_ne_nf (tgt := 33) qX1_compares_17 (by omega) (by omega) (by omega) (by omega) ?_
    refine x_ildn qX1_compares_20 rfl ?_
    refine x_ildn qX1_compares_21 rfl ?_
    refine x_icmp_ne_n (tgt := 29) qX1_compares_22 (by omega) (by omega) (by omega) (fun h22 => ?_) (fun h22 => ?_)
    · refine x_iconst (v := nI 0) qX1_compares_29 rfl ?_
      refine x_goto (tgt := 43) qX1_compares_30 (by omega) ?_
      refine x_iret qX1_compares_43 rfl rfl ?_
      first | exact ht (by simp [cmpb]; omega) | exact hf (by simp [cmpb]; omega)
    · refine x_iconst (v := nI 1) qX1_compares_25 rfl ?_
      refine x_goto (tgt := 43) qX1_compares_26 (by omega) ?_
      refine x_iret qX1_compares_43 rfl rfl ?_
      first | exact ht (by simp [cmpb]; omega) | exact hf (by simp [cmpb]; omega)
  · refine x_ildn qX1_compares_0 rfl ?_
    refine x_if_ne_t (tgt := 15) qX1_compares_1 (by omega) (by decide) ?_
    refine x_ildn qX1_compares_15 rfl ?_
    refine x_iconst (v := nI 1) qX1_compares_16 rfl ?_
    refine x_icmp_ne_nt (tgt := 33) qX1_compares_17 (by omega) (by omega) (by omega) (by omega) ?_
    refine x_ildn qX1_compares_33 rfl ?_
    refine x_ildn qX1_compares_34 rfl ?_
    refine x_icmp_le_n (tgt := 42) qX1_compares_35 (by omega) (by omega) (by omega) (fun h35 => ?_) (fun h35 => ?_)
    · refine x_iconst (v := nI 0) qX1_compares_42 rfl ?_
      refine x_iret qX1_compares_43 rfl rfl ?_
      first | exact ht (by simp [cmpb]; omega) | exact hf (by simp [cmpb]; omega)
    · refine x_iconst (v := nI 1) qX1_compares_38 rfl ?_
      refine x_goto (tgt := 43) qX1_compares_39 (by omega) ?_
      refine x_iret qX1_compares_43 rfl rfl ?_
      first | exact ht (by simp [cmpb]; omega) | exact hf (by simp [cmpb]; omega)
theorem c_X1_push {R : cm_R} {t c : Nat} {v : Int64} (hc : c < 24) (hQ : Q (some (.int (nI (c + 1)))) I (cm_u L 27 c v) R (DD t)) : cm_Ex l g 1 0 0 mX1_push 0 [.ref 27, .int (nI c), .long v, .float 0] [] I L R (DD t) Q := by
  refine x_ildn qX1_push_0 rfl ?_
  refine x_if_lt_nf (tgt := 10) qX1_push_1 (by omega) (by omega) ?_
  refine x_ildn qX1_push_4 rfl ?_
  refine x_aldn qX1_push_5 rfl trivial ?_
  refine x_alen qX1_push_6 rfl (by decide) rfl ?_
  refine x_icmp_lt_nt (tgt := 12) qX1_push_7 (by omega) (by omega) (by omega) (by omega) ?_
  refine x_aldn qX1_push_12 rfl trivial ?_
  refine x_ildn qX1_push_13 rfl ?_
  refine x_lldn qX1_push_14 rfl ?_
  refine x_last qX1_push_15 rfl rfl (by omega) (by decide) ?_
  refine x_ildn qX1_push_16 rfl ?_
  refine x_iconst (v := nI 1) qX1_push_17 rfl ?_
  refine x_iadd_n qX1_push_18 ?_
  refine x_iret qX1_push_19 rfl rfl ?_
  exact hQ
theorem c_X1_negate {R : cm_R} {t c : Nat} (hc : c < 24) (hQ : Q (some (.int (nI (c + 1)))) I (cm_u L 27 c (L 27 c ^^^ -1)) R (DD t)) : cm_Ex l g 1 0 0 mX1_negate 0 [.ref 27, .int (nI (c + 1))] [] I L R (DD t) Q := by
  refine x_ildn qX1_negate_0 rfl ?_
  refine x_iconst (v := nI 1) qX1_negate_1 rfl ?_
  refine x_icmp_lt_nf (tgt := 25) qX1_negate_2 (by omega) (by omega) (by omega) (by omega) ?_
  refine x_ildn qX1_negate_5 rfl ?_
  refine x_aldn qX1_negate_6 rfl trivial ?_
  refine x_alen qX1_negate_7 rfl (by decide) rfl ?_
  refine x_icmp_gt_nf (tgt := 25) qX1_negate_8 (by omega) (by omega) (by omega) (by omega) ?_
  refine x_aldn qX1_negate_11 rfl trivial ?_
  refine x_ildn qX1_negate_12 rfl ?_
  refine x_iconst (v := nI 1) qX1_negate_13 rfl ?_
  refine x_isub_n qX1_negate_14 (by omega) ?_
  refine x_aldn qX1_negate_15 rfl trivial ?_
  refine x_ildn qX1_negate_16 rfl ?_
  refine x_iconst (v := nI 1) qX1_negate_17 rfl ?_
  refine x_isub_n qX1_negate_18 (by omega) ?_
  refine x_lald qX1_negate_19 rfl rfl (by omega) (by decide) ?_
  refine x_ldc2 qX1_negate_20 vX1_55 ?_
  refine x_lxor qX1_negate_23 ?_
  refine x_last qX1_negate_24 rfl rfl (by omega) (by decide) ?_
  refine x_ildn qX1_negate_25 rfl ?_
  refine x_iret qX1_negate_26 rfl rfl ?_
  exact hQ
theorem c_X1_join {R : cm_R} {t c : Nat} {an : Int32} (hc : c + 1 < 24) (hQ : Q (some (.int (nI (c + 1)))) I (cm_u L 27 c (if an = 0 then L 27 c ||| L 27 (c + 1) else L 27 c &&& L 27 (c + 1))) R (DD t)) : cm_Ex l g 1 0 0 mX1_join 0 [.ref 27, .int (nI (c + 2)), .int an, .float 0, .float 0, .float 0, .float 0] [] I L R (DD t) Q := by
  refine x_ildn qX1_join_0 rfl ?_
  refine x_iconst (v := nI 2) qX1_join_1 rfl ?_
  refine x_icmp_lt_nf (tgt := 11) qX1_join_2 (by omega) (by omega) (by omega) (by omega) ?_
  refine x_ildn qX1_join_5 rfl ?_
  refine x_aldn qX1_join_6 rfl trivial ?_
  refine x_alen qX1_join_7 rfl (by decide) rfl ?_
  refine x_icmp_le_nt (tgt := 13) qX1_join_8 (by omega) (by omega) (by omega) (by omega) ?_
  refine x_aldn qX1_join_13 rfl trivial ?_
  refine x_ildn qX1_join_14 rfl ?_
  refine x_iconst (v := nI 1) qX1_join_15 rfl ?_
  refine x_isub_n qX1_join_16 (by omega) ?_
  refine x_lald qX1_join_17 rfl rfl (by omega) (by decide) ?_
  refine x_lst3 qX1_join_18 (by decide) rfl ?_
  refine x_aldn qX1_join_19 rfl trivial ?_
  refine x_ildn qX1_join_20 rfl ?_
  refine x_iconst (v := nI 2) qX1_join_21 rfl ?_
  refine x_isub_n qX1_join_22 (by omega) ?_
  refine x_lald qX1_join_23 rfl rfl (by omega) (by decide) ?_
  refine x_lst5 qX1_join_24 (by decide) rfl ?_
  refine x_aldn qX1_join_26 rfl trivial ?_
  refine x_ildn qX1_join_27 rfl ?_
  refine x_iconst (v := nI 2) qX1_join_28 rfl ?_
  refine x_isub_n qX1_join_29 (by omega) ?_
  refine x_ildn qX1_join_30 rfl ?_
  refine x_if_eq (tgt := 41) qX1_join_31 (by omega) (fun h31 => ?_) (fun h31 => ?_)
  · refine x_lld qX1_join_41 rfl ?_
    refine x_lldn qX1_join_43 rfl ?_
    refine x_lor qX1_join_44 ?_
    refine x_last qX1_join_45 rfl rfl (by omega) (by decide) ?_
    refine x_ildn qX1_join_46 rfl ?_
    refine x_iconst (v := nI 1) qX1_join_47 rfl ?_
    refine x_isub_n qX1_join_48 (by omega) ?_
    refine x_iret qX1_join_49 rfl rfl ?_
    first | (rw [if_pos h31] at hQ; exact hQ) | (rw [if_neg h31] at hQ; exact hQ)
  · refine x_lld qX1_join_34 rfl ?_
    refine x_lldn qX1_join_36 rfl ?_
    refine x_land qX1_join_37 ?_
    refine x_goto (tgt := 45) qX1_join_38 (by omega) ?_
    refine x_last qX1_join_45 rfl rfl (by omega) (by decide) ?_
    refine x_ildn qX1_join_46 rfl ?_
    refine x_iconst (v := nI 1) qX1_join_47 rfl ?_
    refine x_isub_n qX1_join_48 (by omega) ?_
    refine x_iret qX1_join_49 rfl rfl ?_
    first | (rw [if_pos h31] at hQ; exact hQ) | (rw [if_neg h31] at hQ; exact hQ)
theorem c_X1_tested {f s x r : Nat} (hf : f < 5) (hs : s < 3) (hx : x < 100) (hr0 : r < 12) (H : HI n kd mm I L) (hQ : ∀ v, (∀ w, w < wys mm n → tb v w = cmpb s (hvl n mm f w r) x) → Q (some (.long v)) I L (RR n hr tl) (DD n)) : cm_Ex l g 3 0 0 mX1_tested 0 [.int (nI ((x * 3 + s) * 5 + f)), .ref 1, .int (nI r), .float 0, .float 0, .float 0, .float 0, .float 0, .float 0, .float 0] [] I L (RR n hr tl) (DD n) Q := by
  obtain ⟨h4, ho, -, h64, h6, -, hth, -, hwi, -⟩ := id H
  have e1 : ((x * 3 + s) * 5 + f) % 5 = f := by omega
  have e2 : ((x * 3 + s) * 5 + f) / 5 % 3 = s := by omega
  have e3 : ((x * 3 + s) * 5 + f) / 15 = x := by omega
  have plain : ∀ z, z < 1000 → (∀ w, w < wys mm n → hvl n mm f w r = z) → ∀ a6, cm_Ex l g 3 0 0 mX1_tested 48 [.int (nI ((x * 3 + s) * 5 + f)), .ref 1, .int (nI r), .int (nI f), .int (nI s), .int (nI x), a6, .float 0, .float 0, .float 0] [.int (nI z)] I L (RR n hr tl) (DD n) Q := by
    intro z hz hw a6
    refine x_ild qX1_tested_48 rfl ?_
    refine x_ild qX1_tested_50 rfl ?_
    refine x_cS3 (d' := 1) qX1_tested_52 cX1_63 rfl rfl (Nat.le_of_ble_eq_true rfl) (Nat.le_of_ble_eq_true rfl) (by decide) ?_
    refine c_X1_compares hz hs (by omega) (fun h52 => ?_) (fun h52 => ?_)
    · refine x_if_eq_f (tgt := 64) qX1_tested_55 (by omega) (by decide) ?_
      refine x_ldc2 qX1_tested_58 vX1_55 ?_
      refine x_goto (tgt := 65) qX1_tested_61 (by omega) ?_
      refine x_lret qX1_tested_65 rfl ?_
      first | exact hQ _ (fun w hw' => by rw [tb_m1 w (by omega), hw w hw', h52]) | exact hQ _ (fun w hw' => by rw [tb_0, hw w hw']; cases hc : cmpb s z x; rfl; exact absurd hc h52)
    · refine x_if_eq_t (tgt := 64) qX1_tested_55 (by omega) (by decide) ?_
      refine x_lconst (v := 0) qX1_tested_64 rfl ?_
      refine x_lret qX1_tested_65 rfl ?_
      first | exact hQ _ (fun w hw' => by rw [tb_m1 w (by omega), hw w hw', h52]) | exact hQ _ (fun w hw' => by rw [tb_0, hw w hw']; cases hc : cmpb s z x; rfl; exact absurd hc h52)
  refine x_ildn qX1_tested_0 rfl ?_
  refine x_iconst (v := nI 5) qX1_tested_1 rfl ?_
  refine x_irem_n qX1_tested_2 (by omega) (by omega) (by omega) ?_
  rw [e1]
  refine x_ist3 qX1_tested_3 (by decide) rfl ?_
  refine x_ildn qX1_tested_4 rfl ?_
  refine x_iconst (v := nI 5) qX1_tested_5 rfl ?_
  refine x_idiv_n qX1_tested_6 (by omega) (by omega) (by omega) ?_
  refine x_iconst (v := nI 3) qX1_tested_7 rfl ?_
  refine x_irem_n qX1_tested_8 (by omega) (by omega) (by omega) ?_
  rw [e2]
  refine x_ist4 qX1_tested_9 (by decide) rfl ?_
  refine x_ildn qX1_tested_11 rfl ?_
  refine x_bipush (v := nI 15) qX1_tested_12 rfl ?_
  refine x_idiv_n qX1_tested_14 (by omega) (by omega) (by omega) ?_
  rw [e3]
  by_cases hf4 : f = 4
  · subst hf4
    refine x_ist5 qX1_tested_15 (by decide) rfl ?_
    refine x_ildn qX1_tested_17 rfl ?_
    refine x_iconst (v := nI 4) qX1_tested_18 rfl ?_
    refine x_icmp_ne_nf (tgt := 26) qX1_tested_19 (by omega) (by omega) (by omega) (by omega) ?_
    refine x_null qX1_tested_22 ?_
    refine x_goto (tgt := 31) qX1_tested_23 (by omega) ?_
    refine x_ast6 qX1_tested_31 (by decide) trivial rfl ?_
    refine x_ald qX1_tested_33 rfl trivial ?_
    refine x_ifnonnull_n (a := 0) qX1_tested_35 ?_
    refine x_ildn qX1_tested_38 rfl ?_
    refine x_iconst (v := nI 4) qX1_tested_39 rfl ?_
    refine x_icmp_ne_nf (tgt := 47) qX1_tested_40 (by omega) (by omega) (by omega) (by omega) ?_
    refine x_ildn qX1_tested_43 rfl ?_
    refine x_goto (tgt := 48) qX1_tested_44 (by omega) ?_
    exact plain r (by omega) (fun w hw => if_pos rfl) _
  · by_cases hfn : f < n
    · have hmf := ho f hfn
      have loop : ∀ q k (v : Int64), k + q = mm f → (∀ w, w < wys mm n → tb v w = exb (fun i => cmpb s i x && (dgt mm w f == i)) k) → cm_Ex l g 3 0 0 mX1_tested 72 [.int (nI ((x * 3 + s) * 5 + f)), .ref 1, .int (nI r), .int (nI f), .int (nI s), .int (nI x), .ref (106 + f), .long v, .float 0, .int (nI k)] [] I L (RR n hr tl) (DD n) Q := by
        intro q
        induction q with
        | zero =>
          intro k v hk hv
          have e : k = mm f := by omega
          subst e
          refine x_ild qX1_tested_72 rfl ?_
          refine x_ald qX1_tested_74 rfl trivial ?_
          refine x_getIe qX1_tested_76 fX1_67 (dd_th hfn) (hth f hfn).2.2 ?_
          refine x_icmp_ge_nt (tgt := 112) qX1_tested_79 (by omega) (by omega) (by omega) (by omega) ?_
          refine x_lld qX1_tested_112 rfl ?_
          refine x_lret qX1_tested_114 rfl ?_
          refine hQ _ (fun w hw => ?_)
          rw [hv w hw]
          unfold hvl
          rw [if_neg hf4, if_pos hfn, Bool.eq_iff_iff, exb_iff]
          constructor
          · rintro ⟨i, hi, hc⟩
            simp only [Bool.and_eq_true, beq_iff_eq] at hc
            rw [hc.2]; exact hc.1
          · intro hc
            exact ⟨dgt mm w f, dgt_lt ho hfn w, by simp [hc]⟩
        | succ q ih =>
          intro k v hk hv
          refine x_ild qX1_tested_72 rfl ?_
          refine x_ald qX1_tested_74 rfl trivial ?_
          refine x_getIe qX1_tested_76 fX1_67 (dd_th hfn) (hth f hfn).2.2 ?_
          refine x_icmp_ge_nf (tgt := 112) qX1_tested_79 (by omega) (by omega) (by omega) (by omega) ?_
          refine x_ild qX1_tested_82 rfl ?_
          refine x_ild qX1_tested_84 rfl ?_
          refine x_ild qX1_tested_86 rfl ?_
          refine x_cS3 (d' := 1) qX1_tested_88 cX1_63 rfl rfl (Nat.le_of_ble_eq_true rfl) (Nat.le_of_ble_eq_true rfl) (by decide) ?_
          refine c_X1_compares (by omega) hs (by omega) (fun h88 => ?_) (fun h88 => ?_)
          · refine x_if_eq_f (tgt := 106) qX1_tested_91 (by omega) (by decide) ?_
            refine x_lld qX1_tested_94 rfl ?_
            refine x_aldn qX1_tested_96 rfl trivial ?_
            refine x_ildn qX1_tested_97 rfl ?_
            refine x_ild qX1_tested_98 rfl ?_
            refine x_cV2 (d' := 2) qX1_tested_100 cX1_72 rfl ⟨_, rfl, rfl⟩ rfl rfl (Nat.le_of_ble_eq_true rfl) (Nat.le_of_ble_eq_true rfl) (by decide) ?_
            refine c_X3_waysWith H hfn (by omega) ?_
            refine x_lor qX1_tested_103 ?_
            refine x_lst7 qX1_tested_104 (by decide) rfl ?_
            refine x_iinc9 qX1_tested_106 (by decide) (cm_inc _) rfl ?_
            refine x_goto (tgt := 72) qX1_tested_109 (by omega) ?_
            refine ih (k + 1) _ (by omega) (fun w hw => ?_)
            simp only [exb]
            first | (rw [tb_or, hv w hw, hwi f hfn k (by omega) w (by omega), h88]; simp [hw]) | (rw [hv w hw]; cases hc : cmpb s k x; simp; exact absurd hc h88)
          · refine x_if_eq_t (tgt := 106) qX1_tested_91 (by omega) (by decide) ?_
            refine x_iinc9 qX1_tested_106 (by decide) (cm_inc _) rfl ?_
            refine x_goto (tgt := 72) qX1_tested_109 (by omega) ?_
            refine ih (k + 1) _ (by omega) (fun w hw => ?_)
            simp only [exb]
            first | (rw [tb_or, hv w hw, hwi f hfn k (by omega) w (by omega), h88]; simp [hw]) | (rw [hv w hw]; cases hc : cmpb s k x; simp; exact absurd hc h88)
      refine x_ist5 qX1_tested_15 (by decide) rfl ?_
      refine x_ildn qX1_tested_17 rfl ?_
      refine x_iconst (v := nI 4) qX1_tested_18 rfl ?_
      refine x_icmp_ne_nt (tgt := 26) qX1_tested_19 (by omega) (by omega) (by omega) (by omega) ?_
      refine x_aldn qX1_tested_26 rfl trivial ?_
      refine x_ildn qX1_tested_27 rfl ?_
      refine x_cV1 (d' := 1) qX1_tested_28 cX1_57 rfl ⟨_, rfl, rfl⟩ rfl rfl (Nat.le_of_ble_eq_true rfl) (Nat.le_of_ble_eq_true rfl) (by decide) ?_
      refine c_X3_thingAt H (fun i hi hij => ?_) (fun hno => absurd (by rw [nI_toInt (by omega)]; omega) hno)
      obtain rfl : f = i := (nI_eq (by omega) (by omega)).mp hij
      refine x_ast6 qX1_tested_31 (by decide) trivial rfl ?_
      refine x_ald qX1_tested_33 rfl trivial ?_
      refine x_ifnonnull (tgt := 66) qX1_tested_35 (by omega) ?_
      refine x_lconst (v := 0) qX1_tested_66 rfl ?_
      refine x_lst7 qX1_tested_67 (by decide) rfl ?_
      refine x_iconst (v := nI 0) qX1_tested_69 rfl ?_
      refine x_ist9 qX1_tested_70 (by decide) rfl ?_
      exact loop (mm f) 0 _ (by omega) (fun w hw => tb_0 w)
    · refine x_ist5 qX1_tested_15 (by decide) rfl ?_
      refine x_ildn qX1_tested_17 rfl ?_
      refine x_iconst (v := nI 4) qX1_tested_18 rfl ?_
      refine x_icmp_ne_nt (tgt := 26) qX1_tested_19 (by omega) (by omega) (by omega) (by omega) ?_
      refine x_aldn qX1_tested_26 rfl trivial ?_
      refine x_ildn qX1_tested_27 rfl ?_
      refine x_cV1 (d' := 1) qX1_tested_28 cX1_57 rfl ⟨_, rfl, rfl⟩ rfl rfl (Nat.le_of_ble_eq_true rfl) (Nat.le_of_ble_eq_true rfl) (by decide) ?_
      refine c_X3_thingAt H (fun i hi hij => absurd ((nI_eq (by omega) (by omega)).mp hij) (by omega)) (fun hno => ?_)
      refine x_ast6 qX1_tested_31 (by decide) trivial rfl ?_
      refine x_ald qX1_tested_33 rfl trivial ?_
      refine x_ifnonnull_n (a := 0) qX1_tested_35 ?_
      refine x_ildn qX1_tested_38 rfl ?_
      refine x_iconst (v := nI 4) qX1_tested_39 rfl ?_
      refine x_icmp_ne_nt (tgt := 47) qX1_tested_40 (by omega) (by omega) (by omega) (by omega) ?_
      refine x_iconst (v := nI 0) qX1_tested_47 rfl ?_
      exact plain 0 (by omega) (fun w hw => by unfold hvl; rw [if_neg hf4, if_neg hfn]) _
end K9
