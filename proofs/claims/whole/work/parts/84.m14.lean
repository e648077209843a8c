/-! the reference: which ways may be, ways laid -/
section M14
variable {l : Launch} {g : cm_G} {I : cm_I} {L : cm_L} {hr tl : Option Nat} {Q : cm_Post} {u : Nat} {n : Nat} {kd mm : Nat → Nat} {hx : Nat} {cs : List Cls}
theorem S87_fr {w : Nat} {I I' : cm_I} (S : S87 n mm w I) (h : I' 87 = I 87) : S87 n mm w I' := fun t ht => by rw [h]; exact S t ht
theorem c_X12_mayBe {w r : Nat} (H : MH n kd mm I) (K : HK hx cs I) (hw : w < 64) (hr12 : r < 12) (S : S87 n mm w I) (hQ : ∀ I', (∀ b, b ≠ 93 → I' b = I b) → Q (some (.int (b2I (opn kd mm n (btk cs) r w)))) I' L (RR u hr tl) (DD u)) : cm_Ex l g 3 0 0 mX12_mayBe 0 [.ref 73, .int (nI w), .int (nI r), .float 0] [] I L (RR u hr tl) (DD u) Q := by
  obtain ⟨h4, hok, hk, h64, h0, h1, hi⟩ := id H
  obtain ⟨l12, l72, at_⟩ := HK_at K
  have eb := brd_any (n := n) (r := r) (w := w) (mm := mm) K
  unfold opn at hQ
  rw [eb] at hQ
  have ho := HK_clO K
  have loop2 : ∀ (rest : List Cls) j I', cs.drop j = rest → j ≤ cs.length → (∀ b, b ≠ 93 → I' b = I b) → (∀ I', (∀ b, b ≠ 93 → I' b = I b) → Q (some (.int (b2I (!(rest.any (clB (tst n mm w r))))))) I' L (RR u hr tl) (DD u)) → cm_Ex l g 3 0 0 mX12_mayBe 50 [.ref 73, .int (nI w), .int (nI r), .int (nI (fsN hx + j))] [] I' L (RR u hr tl) (DD u) Q := by
    intro rest
    induction rest with
    | nil =>
      intro j I' hd hj hI hq
      have hjl : cs.length ≤ j := List.drop_eq_nil_iff.mp hd
      have K' : HK hx cs I' := HK_fr K (by rw [hI 73 (by decide)]) (fun b h1 h2 => hI b (by omega))
      refine x_ildn qX12_mayBe_50 rfl ?_
      refine x_aldn qX12_mayBe_51 rfl trivial ?_
      refine x_cV0 (d' := 1) qX12_mayBe_52 cX12_214 rfl ⟨_, rfl, rfl⟩ rfl rfl (Nat.le_of_ble_eq_true rfl) (Nat.le_of_ble_eq_true rfl) (by decide) ?_
      refine c_X12_behind K' ?_
      refine x_icmp_ge_nt (tgt := 86) qX12_mayBe_55 (by omega) (by omega) (by omega) (by omega) ?_
      refine x_iconst (v := nI 1) qX12_mayBe_86 rfl ?_
      refine x_iret qX12_mayBe_87 rfl rfl ?_
      exact hq I' hI
    | cons cl rest ih =>
      intro j I' hd hj hI hq
      have hjl : j < cs.length := by
        by_cases e : j < cs.length
        · exact e
        · rw [List.drop_eq_nil_iff.mpr (by omega)] at hd; cases hd
      have hcl : cs[j]? = some cl := by
        have := congrArg (fun x => x[0]?) hd
        simpa using this
      have hd2 : cs.drop (j + 1) = rest := by
        have := congrArg List.tail hd
        simpa using this
      have K' : HK hx cs I' := HK_fr K (by rw [hI 73 (by decide)]) (fun b h1 h2 => hI b (by omega))
      have Mc := (HK_at K').2.2 j cl hcl
      have hx6 : hx < 6 := by
        rcases K.2 with q | q
        · exact q.1
        · rw [q.2] at hcl; cases hcl
      rw [List.any_cons] at hq
      have nx : clB (tst n mm w r) cl = false → ∀ I2, (∀ b, b ≠ 93 → I2 b = I b) → cm_Ex l g 3 0 0 mX12_mayBe 80 [.ref 73, .int (nI w), .int (nI r), .int (nI (fsN hx + j))] [] I2 L (RR u hr tl) (DD u) Q := fun e I2 hI2 => by
        rw [e, Bool.false_or] at hq
        refine x_iinc3 qX12_mayBe_80 (by decide) (cm_inc _) rfl ?_
        refine x_goto (tgt := 50) qX12_mayBe_83 (by omega) ?_
        exact ih (j + 1) I2 hd2 (by omega) hI2 hq
      refine x_ildn qX12_mayBe_50 rfl ?_
      refine x_aldn qX12_mayBe_51 rfl trivial ?_
      refine x_cV0 (d' := 1) qX12_mayBe_52 cX12_214 rfl ⟨_, rfl, rfl⟩ rfl rfl (Nat.le_of_ble_eq_true rfl) (Nat.le_of_ble_eq_true rfl) (by decide) ?_
      refine c_X12_behind K' ?_
      refine x_icmp_ge_nf (tgt := 86) qX12_mayBe_55 (by omega) (by omega) (by omega) (by omega) ?_
      have m2 := Mc.2.1
      refine x_aldn qX12_mayBe_58 rfl trivial ?_
      refine x_getR qX12_mayBe_59 fX12_44 rfl rfl ?_
      refine x_ildn qX12_mayBe_62 rfl ?_
      refine x_ialde qX12_mayBe_63 dd_78 rfl (by omega) (by decide) Mc.1 ?_
      refine x_iconst (v := nI 2) qX12_mayBe_64 rfl ?_
      refine x_icmp_ne_n (tgt := 80) qX12_mayBe_65 (by omega) (by omega) (by omega) (fun e => ?_) (fun e => ?_)
      · exact nx (by unfold clB; rw [decide_eq_false e]; rfl) I' hI
      · refine x_aldn qX12_mayBe_68 rfl trivial ?_
        refine x_ildn qX12_mayBe_69 rfl ?_
        refine x_ildn qX12_mayBe_70 rfl ?_
        refine x_ildn qX12_mayBe_71 rfl ?_
        refine x_cV3 (d' := 2) qX12_mayBe_72 cX12_224 rfl ⟨_, rfl, rfl⟩ rfl rfl (Nat.le_of_ble_eq_true rfl) (Nat.le_of_ble_eq_true rfl) (by decide) ?_
        refine c_X12_holds (n := n) (mm := mm) Mc hx6 (by omega) e hw hr12 h4 hok (S87_fr S (hI 87 (by decide))) (fun I2 hI2 => ?_)
        have hI3 : ∀ b, b ≠ 93 → I2 b = I b := fun b hb => (hI2 b hb).trans (hI b hb)
        cases hv : clB (tst n mm w r) cl with
        | true =>
          rw [hv] at hq
          refine x_if_eq_f (tgt := 80) qX12_mayBe_75 (by omega) (by decide) ?_
          refine x_iconst (v := nI 0) qX12_mayBe_78 rfl ?_
          refine x_iret qX12_mayBe_79 rfl rfl ?_
          exact hq I2 hI3
        | false =>
          refine x_if_eq_t (tgt := 80) qX12_mayBe_75 (by omega) (by decide) ?_
          exact nx hv I2 hI3
  have loop1 : ∀ m t, t + m = n → lwf kd mm t w = true → cm_Ex l g 3 0 0 mX12_mayBe 2 [.ref 73, .int (nI w), .int (nI r), .int (nI t)] [] I L (RR u hr tl) (DD u) Q := by
    intro m
    induction m with
    | zero =>
      intro t ht hl
      have e : t = n := by omega
      subst e
      rw [hl] at hQ
      refine x_ildn qX12_mayBe_2 rfl ?_
      refine x_aldn qX12_mayBe_3 rfl trivial ?_
      refine x_getIe qX12_mayBe_4 fX12_7 rfl h0 ?_
      refine x_icmp_ge_nt (tgt := 45) qX12_mayBe_7 (by omega) (by omega) (by omega) (by omega) ?_
      refine x_aldn qX12_mayBe_45 rfl trivial ?_
      refine x_cV0 (d' := 1) qX12_mayBe_46 cX12_211 rfl ⟨_, rfl, rfl⟩ rfl rfl (Nat.le_of_ble_eq_true rfl) (Nat.le_of_ble_eq_true rfl) (by decide) ?_
      refine c_X12_first K ?_
      refine x_ist3 qX12_mayBe_49 (by decide) rfl ?_
      exact loop2 cs 0 I rfl (by omega) (fun _ _ => rfl) hQ
    | succ m ih =>
      intro t ht hl
      have htn : t < n := by omega
      have hdl := dgt_lt hok htn w
      have hm := hok t htn
      have e87 : I 87 (4 * w + t) = nI (dgt mm w t) := by rw [S t (by omega), if_pos htn]
      have el : lwf kd mm (t + 1) w = (lwf kd mm t w && !(undr (kd t) 5 && dgt mm w t == 0)) := rfl
      rw [hl, Bool.true_and] at el
      refine x_ildn qX12_mayBe_2 rfl ?_
      refine x_aldn qX12_mayBe_3 rfl trivial ?_
      refine x_getIe qX12_mayBe_4 fX12_7 rfl h0 ?_
      refine x_icmp_ge_nf (tgt := 45) qX12_mayBe_7 (by omega) (by omega) (by omega) (by omega) ?_
      refine x_aldn qX12_mayBe_10 rfl trivial ?_
      refine x_aldn qX12_mayBe_11 rfl trivial ?_
      refine x_getR qX12_mayBe_12 fX12_16 rfl rfl ?_
      refine x_ildn qX12_mayBe_15 rfl ?_
      refine x_ialde qX12_mayBe_16 dd_74 rfl (by omega) (by decide) (hi t htn).1 ?_
      refine x_iconst (v := nI 5) qX12_mayBe_17 rfl ?_
      refine x_cV2 (d' := 1) qX12_mayBe_18 cX12_221 rfl ⟨_, rfl, rfl⟩ rfl rfl (Nat.le_of_ble_eq_true rfl) (Nat.le_of_ble_eq_true rfl) (by decide) ?_
      refine c_X12_isUnder (hk t htn) (by decide) ?_
      cases hu : undr (kd t) 5 with
      | false =>
        rw [hu, Bool.false_and] at el
        refine x_if_eq_t (tgt := 39) qX12_mayBe_21 (by omega) (by decide) ?_
        refine x_iinc3 qX12_mayBe_39 (by decide) (cm_inc _) rfl ?_
        refine x_goto (tgt := 2) qX12_mayBe_42 (by omega) ?_
        exact ih (t + 1) (by omega) el
      | true =>
        rw [hu, Bool.true_and] at el
        refine x_if_eq_f (tgt := 39) qX12_mayBe_21 (by omega) (by decide) ?_
        refine x_aldn qX12_mayBe_24 rfl trivial ?_
        refine x_getR qX12_mayBe_25 fX12_80 rfl rfl ?_
        refine x_iconst (v := nI 4) qX12_mayBe_28 rfl ?_
        refine x_ildn qX12_mayBe_29 rfl ?_
        refine x_imul_n qX12_mayBe_30 ?_
        refine x_ildn qX12_mayBe_31 rfl ?_
        refine x_iadd_n qX12_mayBe_32 ?_
        refine x_ialde qX12_mayBe_33 dd_87 rfl (by omega) (by decide) e87 ?_
        refine x_if_ne_n (tgt := 39) qX12_mayBe_34 (by omega) (by omega) (fun e => ?_) (fun e => ?_)
        · rw [show (dgt mm w t == 0) = false by rw [beq_eq_false_iff_ne]; omega] at el
          refine x_iinc3 qX12_mayBe_39 (by decide) (cm_inc _) rfl ?_
          refine x_goto (tgt := 2) qX12_mayBe_42 (by omega) ?_
          exact ih (t + 1) (by omega) el
        · rw [show (dgt mm w t == 0) = true by rw [beq_iff_eq]; omega] at el
          have ef := lwf_mono el (n - (t + 1))
          rw [show t + 1 + (n - (t + 1)) = n by omega] at ef
          rw [ef] at hQ
          refine x_iconst (v := nI 0) qX12_mayBe_37 rfl ?_
          refine x_iret qX12_mayBe_38 rfl rfl ?_
          exact hQ I (fun _ _ => rfl)
  refine x_iconst (v := nI 0) qX12_mayBe_0 rfl ?_
  refine x_ist3 qX12_mayBe_1 (by decide) rfl ?_
  exact loop1 n 0 (by omega) rfl
/-- sums of a way, with all its things -/
theorem sum15 {f : Nat → Nat} {w : Nat} : ∀ {t : Nat}, t < 4 → sumN f mm 15 (t + 1) w = sumN f mm 15 t w + f (4 * t + dgt mm w t) := by
  intro t ht
  show (if 15 / 2 ^ t % 2 = 1 then _ else _) = _
  rw [if_pos]
  rcases (by omega : t = 0 ∨ t = 1 ∨ t = 2 ∨ t = 3) with rfl | rfl | rfl | rfl <;> decide
/-- what the reference has of the house's numbers -/
def T91 (cs : List Cls) (I : cm_I) : Prop := ∀ k, k < 16 → I 91 k = nI (lst 0 k cs)
def W88 (n : Nat) (mm : Nat → Nat) (cs : List Cls) (w : Nat) (I : cm_I) : Prop := I 88 w = nI (sumN (fun i => lst 0 i cs) mm 15 n w) ∧ I 89 w = nI (sumN (fun i => lst 1 i cs) mm 15 n w)
theorem c_X12_layWay {w : Nat} (H : MH n kd mm I) (K : HK hx cs I) (hw : w < 64) (T : T91 cs I) (hQ : ∀ I', S87 n mm w I' → W88 n mm cs w I' → (∀ b, b ≠ 87 → b ≠ 88 → b ≠ 89 → I' b = I b) → (∀ v, v ≠ w → I' 88 v = I 88 v ∧ I' 89 v = I 89 v) → (∀ q, q < 4 * w ∨ 4 * w + 4 ≤ q → I' 87 q = I 87 q) → Q none I' L (RR u hr tl) (DD u)) : cm_Ex l g 3 0 0 mX12_layWay 0 [.ref 73, .int (nI w), .float 0, .float 0, .float 0] [] I L (RR u hr tl) (DD u) Q := by
  obtain ⟨h4, hok, hk, h64, h0, h1, hi⟩ := id H
  have loop : ∀ m t lf (a4 : Value) I', t + m = 4 → lf = (if t ≤ n then w / wys mm t else lf) → (n ≤ t → True) → lf ≤ w → (∀ q, q < t → I' 87 (4 * w + q) = nI (if q < n then dgt mm w q else 0)) → I' 88 w = nI (sumN (fun i => lst 0 i cs) mm 15 (min t n) w) → I' 89 w = nI (sumN (fun i => lst 1 i cs) mm 15 (min t n) w) → (∀ b, b ≠ 87 → b ≠ 88 → b ≠ 89 → I' b = I b) → (∀ v, v ≠ w → I' 88 v = I 88 v ∧ I' 89 v = I 89 v) → (∀ q, q < 4 * w ∨ 4 * w + 4 ≤ q → I' 87 q = I 87 q) → cm_Ex l g 3 0 0 mX12_layWay 18 [.ref 73, .int (nI w), .int (nI lf), .int (nI t), a4] [] I' L (RR u hr tl) (DD u) Q := by
    intro m
    induction m with
    | zero =>
      intro t lf a4 I' ht hlf _ hle h87 h88 h89 hI hv hq
      rw [show min t n = n by omega] at h88 h89
      refine x_ildn qX12_layWay_18 rfl ?_
      refine x_iconst (v := nI 4) qX12_layWay_19 rfl ?_
      refine x_icmp_ge_nt (tgt := 135) qX12_layWay_20 (by omega) (by omega) (by omega) (by omega) ?_
      refine x_vret qX12_layWay_135 rfl ?_
      exact hQ I' (fun q hq => h87 q (by omega)) ⟨h88, h89⟩ hI hv hq
    | succ m ih =>
      intro t lf a4 I' ht hlf _ hle h87 h88 h89 hI hv hq
      have ht4 : t < 4 := by omega
      have k0 : I' 73 0 = nI n := by rw [hI 73 (by decide) (by decide) (by decide)]; exact h0
      refine x_ildn qX12_layWay_18 rfl ?_
      refine x_iconst (v := nI 4) qX12_layWay_19 rfl ?_
      refine x_icmp_ge_nf (tgt := 135) qX12_layWay_20 (by omega) (by omega) (by omega) (by omega) ?_
      refine x_ildn qX12_layWay_23 rfl ?_
      refine x_aldn qX12_layWay_24 rfl trivial ?_
      refine x_getIe qX12_layWay_25 fX12_7 rfl k0 ?_
      by_cases htn : t < n
      · rw [if_pos (by omega)] at hlf
        have hm := hok t htn
        have kst : I' 75 t = nI (mm t) := by rw [hI 75 (by decide) (by decide) (by decide)]; exact (hi t htn).2
        have ed : lf % mm t = dgt mm w t := by rw [hlf]; rfl
        have edv : lf / mm t = w / wys mm (t + 1) := by rw [hlf, Nat.div_div_eq_div_mul]; rfl
        have hdl := dgt_lt hok htn w
        have hdle : lf / mm t ≤ w := Nat.le_trans (Nat.div_le_self _ _) hle
        refine x_icmp_ge_nf (tgt := 42) qX12_layWay_28 (by omega) (by omega) (by omega) (by omega) ?_
        refine x_ildn qX12_layWay_31 rfl ?_
        refine x_aldn qX12_layWay_32 rfl trivial ?_
        refine x_getR qX12_layWay_33 fX12_20 rfl rfl ?_
        refine x_ildn qX12_layWay_36 rfl ?_
        refine x_ialde qX12_layWay_37 dd_75 rfl (by omega) (by decide) kst ?_
        refine x_irem_n qX12_layWay_38 (by omega) (by omega) (by omega) ?_
        refine x_goto (tgt := 43) qX12_layWay_39 (by omega) ?_
        rw [ed]
        refine x_ist4 qX12_layWay_43 (by decide) rfl ?_
        refine x_ildn qX12_layWay_45 rfl ?_
        refine x_aldn qX12_layWay_46 rfl trivial ?_
        refine x_getIe qX12_layWay_47 fX12_7 rfl k0 ?_
        refine x_icmp_ge_nf (tgt := 64) qX12_layWay_50 (by omega) (by omega) (by omega) (by omega) ?_
        refine x_ildn qX12_layWay_53 rfl ?_
        refine x_aldn qX12_layWay_54 rfl trivial ?_
        refine x_getR qX12_layWay_55 fX12_20 rfl rfl ?_
        refine x_ildn qX12_layWay_58 rfl ?_
        refine x_ialde qX12_layWay_59 dd_75 rfl (by omega) (by decide) kst ?_
        refine x_idiv_n qX12_layWay_60 (by omega) (by omega) (by omega) ?_
        refine x_goto (tgt := 65) qX12_layWay_61 (by omega) ?_
        refine x_ist2 qX12_layWay_65 (by decide) rfl ?_
        refine x_aldn qX12_layWay_66 rfl trivial ?_
        refine x_getR qX12_layWay_67 fX12_80 rfl rfl ?_
        refine x_iconst (v := nI 4) qX12_layWay_70 rfl ?_
        refine x_ildn qX12_layWay_71 rfl ?_
        refine x_imul_n qX12_layWay_72 ?_
        refine x_ildn qX12_layWay_73 rfl ?_
        refine x_iadd_n qX12_layWay_74 ?_
        refine x_ild qX12_layWay_75 rfl ?_
        refine x_iast qX12_layWay_77 dd_87 rfl (by omega) (by decide) ?_
        refine x_ildn qX12_layWay_78 rfl ?_
        refine x_aldn qX12_layWay_79 rfl trivial ?_
        refine x_getIe qX12_layWay_80 fX12_7 rfl (show _ = nI n from by rw [rdB (by decide)]; exact k0) ?_
        refine x_icmp_lt_nt (tgt := 89) qX12_layWay_83 (by omega) (by omega) (by omega) (by omega) ?_
        refine x_aldn qX12_layWay_89 rfl trivial ?_
        refine x_getR qX12_layWay_90 fX12_83 rfl rfl ?_
        refine x_ildn qX12_layWay_93 rfl ?_
        refine x_dup2 qX12_layWay_94 rfl rfl ?_
        refine x_ialde qX12_layWay_95 dd_88 rfl (by omega) (by decide) (show _ = nI (sumN (fun i => lst 0 i cs) mm 15 (min t n) w) from by rw [rdB (by decide)]; exact h88) ?_
        refine x_aldn qX12_layWay_96 rfl trivial ?_
        refine x_getR qX12_layWay_97 fX12_92 rfl rfl ?_
        refine x_iconst (v := nI 4) qX12_layWay_100 rfl ?_
        refine x_ildn qX12_layWay_101 rfl ?_
        refine x_imul_n qX12_layWay_102 ?_
        refine x_ild qX12_layWay_103 rfl ?_
        refine x_iadd_n qX12_layWay_105 ?_
        refine x_ialde qX12_layWay_106 dd_91 rfl (by omega) (by decide) (show _ = nI (lst 0 (4 * t + dgt mm w t) cs) from by rw [rdB (by decide), hI 91 (by decide) (by decide) (by decide)]; exact T _ (by omega)) ?_
        refine x_iadd_n qX12_layWay_107 ?_
        refine x_iast qX12_layWay_108 dd_88 rfl (by omega) (by decide) ?_
        refine x_aldn qX12_layWay_109 rfl trivial ?_
        refine x_getR qX12_layWay_110 fX12_86 rfl rfl ?_
        refine x_ildn qX12_layWay_113 rfl ?_
        refine x_dup2 qX12_layWay_114 rfl rfl ?_
        refine x_ialde qX12_layWay_115 dd_89 rfl (by omega) (by decide) (show _ = nI (sumN (fun i => lst 1 i cs) mm 15 (min t n) w) from by rw [rdB (by decide), rdB (by decide)]; exact h89) ?_
        refine x_aldn qX12_layWay_116 rfl trivial ?_
        refine x_iconst (v := nI 1) qX12_layWay_117 rfl ?_
        refine x_iconst (v := nI 4) qX12_layWay_118 rfl ?_
        refine x_ildn qX12_layWay_119 rfl ?_
        refine x_imul_n qX12_layWay_120 ?_
        refine x_ild qX12_layWay_121 rfl ?_
        refine x_iadd_n qX12_layWay_123 ?_
        refine x_cV2 (d' := 2) qX12_layWay_124 cX12_217 rfl ⟨_, rfl, rfl⟩ rfl rfl (Nat.le_of_ble_eq_true rfl) (Nat.le_of_ble_eq_true rfl) (by decide) ?_
        refine c_X12_last (hx := hx) (cs := cs) (HK_fr K ?_ (fun b h1 h2 => ?_)) (Or.inr (Or.inl rfl)) (by omega) ?_
        · rw [rdB (by decide), rdB (by decide), hI 73 (by decide) (by decide) (by decide)]
        · rw [cm_u_ne (by omega), cm_u_ne (by omega)]; exact hI b (by omega) (by omega) (by omega)
        refine x_iadd_n qX12_layWay_127 ?_
        refine x_iast qX12_layWay_128 dd_89 rfl (by omega) (by decide) ?_
        refine x_iinc3 qX12_layWay_129 (by decide) (cm_inc _) rfl ?_
        refine x_goto (tgt := 18) qX12_layWay_132 (by omega) ?_
        have mt : min t n = t := by omega
        have mt1 : min (t + 1) n = t + 1 := by omega
        refine ih (t + 1) (lf / mm t) _ _ (by omega) (by rw [if_pos (by omega)]; exact edv) (fun _ => trivial) hdle (fun q hq2 => ?_) ?_ ?_ (fun b g1 g2 g3 => by rw [cm_u_ne g3, cm_u_ne g2, cm_u_ne g1]; exact hI b g1 g2 g3) (fun v hne => ⟨by rw [rdB (by decide), rdK hne, rdB (by decide)]; exact (hv v hne).1, by rw [rdK hne, rdB (by decide), rdB (by decide)]; exact (hv v hne).2⟩) (fun q hq2 => by rw [rdB (by decide), rdB (by decide), rdK (by omega)]; exact hq q hq2)
        · rw [rdB (by decide), rdB (by decide)]
          by_cases e : q = t
          · subst e; rw [rdE, if_pos htn]
          · rw [rdK (by omega)]; exact h87 q (by omega)
        · rw [rdB (by decide), rdE, mt1, sum15 ht4, mt]
        · rw [rdE, mt1, sum15 ht4, mt]
      · refine x_icmp_ge_nt (tgt := 42) qX12_layWay_28 (by omega) (by omega) (by omega) (by omega) ?_
        refine x_iconst (v := nI 0) qX12_layWay_42 rfl ?_
        refine x_ist4 qX12_layWay_43 (by decide) rfl ?_
        refine x_ildn qX12_layWay_45 rfl ?_
        refine x_aldn qX12_layWay_46 rfl trivial ?_
        refine x_getIe qX12_layWay_47 fX12_7 rfl k0 ?_
        refine x_icmp_ge_nt (tgt := 64) qX12_layWay_50 (by omega) (by omega) (by omega) (by omega) ?_
        refine x_ildn qX12_layWay_64 rfl ?_
        refine x_ist2 qX12_layWay_65 (by decide) rfl ?_
        refine x_aldn qX12_layWay_66 rfl trivial ?_
        refine x_getR qX12_layWay_67 fX12_80 rfl rfl ?_
        refine x_iconst (v := nI 4) qX12_layWay_70 rfl ?_
        refine x_ildn qX12_layWay_71 rfl ?_
        refine x_imul_n qX12_layWay_72 ?_
        refine x_ildn qX12_layWay_73 rfl ?_
        refine x_iadd_n qX12_layWay_74 ?_
        refine x_ild qX12_layWay_75 rfl ?_
        refine x_iast qX12_layWay_77 dd_87 rfl (by omega) (by decide) ?_
        refine x_ildn qX12_layWay_78 rfl ?_
        refine x_aldn qX12_layWay_79 rfl trivial ?_
        refine x_getIe qX12_layWay_80 fX12_7 rfl (show _ = nI n from by rw [rdB (by decide)]; exact k0) ?_
        refine x_icmp_lt_nf (tgt := 89) qX12_layWay_83 (by omega) (by omega) (by omega) (by omega) ?_
        refine x_goto (tgt := 129) qX12_layWay_86 (by omega) ?_
        refine x_iinc3 qX12_layWay_129 (by decide) (cm_inc _) rfl ?_
        refine x_goto (tgt := 18) qX12_layWay_132 (by omega) ?_
        have mt1 : min (t + 1) n = min t n := by omega
        refine ih (t + 1) lf _ _ (by omega) (by rw [if_neg (by omega)]) (fun _ => trivial) hle (fun q hq2 => ?_) (by rw [rdB (by decide), mt1]; exact h88) (by rw [rdB (by decide), mt1]; exact h89) (fun b g1 g2 g3 => by rw [cm_u_ne g1]; exact hI b g1 g2 g3) (fun v hne => ⟨by rw [rdB (by decide)]; exact (hv v hne).1, by rw [rdB (by decide)]; exact (hv v hne).2⟩) (fun q hq2 => by rw [rdK (by omega)]; exact hq q hq2)
        by_cases e : q = t
        · subst e; rw [rdE, if_neg htn]
        · rw [rdK (by omega)]; exact h87 q (by omega)
  refine x_ildn qX12_layWay_0 rfl ?_
  refine x_ist2 qX12_layWay_1 (by decide) rfl ?_
  refine x_aldn qX12_layWay_2 rfl trivial ?_
  refine x_getR qX12_layWay_3 fX12_83 rfl rfl ?_
  refine x_ildn qX12_layWay_6 rfl ?_
  refine x_iconst (v := nI 0) qX12_layWay_7 rfl ?_
  refine x_iast qX12_layWay_8 dd_88 rfl (by omega) (by decide) ?_
  refine x_aldn qX12_layWay_9 rfl trivial ?_
  refine x_getR qX12_layWay_10 fX12_86 rfl rfl ?_
  refine x_ildn qX12_layWay_13 rfl ?_
  refine x_iconst (v := nI 0) qX12_layWay_14 rfl ?_
  refine x_iast qX12_layWay_15 dd_89 rfl (by omega) (by decide) ?_
  refine x_iconst (v := nI 0) qX12_layWay_16 rfl ?_
  refine x_ist3 qX12_layWay_17 (by decide) rfl ?_
  refine loop 4 0 w _ _ (by omega) (by rw [if_pos (by omega)]; exact (Nat.div_one w).symm) (fun _ => trivial) (Nat.le_refl _) (fun q hq2 => absurd hq2 (by omega)) ?_ ?_ (fun b g1 g2 g3 => by rw [cm_u_ne g3, cm_u_ne g2]) (fun v hne => ⟨by rw [rdB (by decide), rdK hne], by rw [rdK hne, rdB (by decide)]⟩) (fun q hq2 => by rw [rdB (by decide), rdB (by decide)])
  · rw [rdB (by decide), rdE, Nat.zero_min]; rfl
  · rw [rdE, Nat.zero_min]; rfl
end M14
