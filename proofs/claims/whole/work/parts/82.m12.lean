/-! the reference: shift -/
section M12
variable {l : Launch} {g : cm_G} {I : cm_I} {L : cm_L} {hr tl : Option Nat} {Q : cm_Post} {u : Nat} {n : Nat} {kd mm : Nat → Nat} {len : Nat} {tx : Nat → Nat} {hs : List (List Cls)} {hx c1 : Nat} {w1 : Nat → Nat} {c2 : Nat} {w2 : Nat → Nat} {im : IM} {s : List Nat} {tp : TP}
theorem ix_toInt {x : Int32} (h : 0 ≤ x.toInt) : ((ix x : Nat) : Int) = x.toInt := by unfold ix; omega
theorem sub_toInt {k : Nat} {m : Int32} (hk : k ≤ 60) (h : 0 ≤ m.toInt) : (nI k - m).toInt = (k : Int) - m.toInt := by
  have h2 := m.toInt_lt
  rw [Int32.toInt_sub, nI_toInt (by omega)]
  exact Int.bmod_eq_of_le (by omega) (by omega)
theorem c_X12_shift {t i o j m : Int32} (M : MI n kd mm len tx hs hx c1 w1 c2 w2 im s tp I L) (hok : shiC tp t i o j m → KMQ Q (.int m) u hr tl (MI n kd mm len tx hs hx c1 w1 c2 w2 im s (fuT tp (ix o) (shiV (tp (ix t)) (tp (ix o)) (ix i) (ix j) (ix m)))) I L) (hno : ¬ shiC tp t i o j m → KMQ Q (.int (shiA tp t o)) u hr tl (MI n kd mm len tx hs hx c1 w1 c2 w2 im s tp) I L) : cm_Ex l g 3 0 0 mX12_shift 0 [.ref 73, .int t, .int i, .int o, .int j, .int m, .float 0] [] I L (RR u hr tl) (DD u) Q := by
  have T := M.2.2.2.2.2.2.2.2
  have z0 : (0 : Int32).toInt = 0 := by decide
  have n1 : ¬ (inB t 6 = true ∧ inB o 6 = true) → cm_Ex l g 3 0 0 mX12_shift 16 [.ref 73, .int t, .int i, .int o, .int j, .int m, .float 0] [] I L (RR u hr tl) (DD u) Q := fun h => by
    have hq := hno (fun e => h e.1) I L M KC_rfl
    unfold shiA at hq
    rw [if_neg h] at hq
    refine x_iconst (v := -1) qX12_shift_16 rfl ?_
    refine x_iret qX12_shift_17 rfl rfl ?_
    exact hq
  refine x_aldn qX12_shift_0 rfl trivial ?_
  refine x_ildn qX12_shift_1 rfl ?_
  refine x_cV1 (d' := 2) qX12_shift_2 cX12_275 rfl ⟨_, rfl, rfl⟩ rfl rfl (Nat.le_of_ble_eq_true rfl) (Nat.le_of_ble_eq_true rfl) (by decide) ?_
  refine c_X12_isTape rfl (fun hb => ?_) (fun hb => ?_)
  · obtain ⟨et, lt⟩ := inB_ix hb
    obtain ⟨t1, t2, t3, t4, t5, t6⟩ := T (ix t) lt
    have ts := tsI_lt t1
    refine x_if_eq_f (tgt := 16) qX12_shift_5 (by omega) (by decide) ?_
    refine x_aldn qX12_shift_8 rfl trivial ?_
    refine x_ildn qX12_shift_9 rfl ?_
    refine x_cV1 (d' := 2) qX12_shift_10 cX12_275 rfl ⟨_, rfl, rfl⟩ rfl rfl (Nat.le_of_ble_eq_true rfl) (Nat.le_of_ble_eq_true rfl) (by decide) ?_
    refine c_X12_isTape rfl (fun ob => ?_) (fun ob => ?_)
    · obtain ⟨eo, lo⟩ := inB_ix ob
      obtain ⟨o1, o2, o3, o4, o5, o6⟩ := T (ix o) lo
      have os := tsI_lt o1
      refine x_if_ne_t (tgt := 18) qX12_shift_13 (by omega) (by decide) ?_
      have n11 : (tp (ix t)).1 = 0 ∨ (tp (ix o)).1 = 0 → cm_Ex l g 3 0 0 mX12_shift 36 [.ref 73, .int t, .int i, .int o, .int j, .int m, .float 0] [] I L (RR u hr tl) (DD u) Q := fun h => by
        have hq := hno (fun e => by rcases h with q | q; exact e.2.1.1 q; exact e.2.1.2 q) I L M KC_rfl
        unfold shiA at hq
        rw [if_pos ⟨hb, ob⟩, if_pos h] at hq
        refine x_bipush (v := -11) qX12_shift_36 rfl ?_
        refine x_iret qX12_shift_38 rfl rfl ?_
        exact hq
      refine x_aldn qX12_shift_18 rfl trivial ?_
      refine x_getR qX12_shift_19 fX12_136 rfl rfl ?_
      refine x_ildn qX12_shift_22 rfl ?_
      refine x_ialde qX12_shift_23 dd_102 et (by omega) (by decide) t4 ?_
      refine x_if_lt (tgt := 36) qX12_shift_24 (by omega) (fun h => ?_) (fun h => ?_)
      · rw [Int32.lt_iff_toInt_lt, z0, ts] at h
        exact n11 (Or.inl (by omega))
      · rw [Int32.lt_iff_toInt_lt, z0, ts] at h
        refine x_aldn qX12_shift_27 rfl trivial ?_
        refine x_getR qX12_shift_28 fX12_136 rfl rfl ?_
        refine x_ildn qX12_shift_31 rfl ?_
        refine x_ialde qX12_shift_32 dd_102 eo (by omega) (by decide) o4 ?_
        refine x_if_ge (tgt := 39) qX12_shift_33 (by omega) (fun h2 => ?_) (fun h2 => ?_)
        · rw [Int32.le_iff_toInt_le, z0, os] at h2
          have nt : ¬ ((tp (ix t)).1 = 0 ∨ (tp (ix o)).1 = 0) := by omega
          have st : tsI (tp (ix t)).1 = nI ((tp (ix t)).1 - 1) := by unfold tsI; rw [if_neg (by omega)]
          have so : tsI (tp (ix o)).1 = nI ((tp (ix o)).1 - 1) := by unfold tsI; rw [if_neg (by omega)]
          refine x_aldn qX12_shift_39 rfl trivial ?_
          refine x_getR qX12_shift_40 fX12_136 rfl rfl ?_
          refine x_ildn qX12_shift_43 rfl ?_
          refine x_ialde qX12_shift_44 dd_102 et (by omega) (by decide) (t4.trans st) ?_
          refine x_aldn qX12_shift_45 rfl trivial ?_
          refine x_getR qX12_shift_46 fX12_136 rfl rfl ?_
          refine x_ildn qX12_shift_49 rfl ?_
          refine x_ialde qX12_shift_50 dd_102 eo (by omega) (by decide) (o4.trans so) ?_
          refine x_icmp_eq_n (tgt := 57) qX12_shift_51 (by omega) (by omega) (by omega) (fun h3 => ?_) (fun h3 => ?_)
          · have es : (tp (ix t)).1 = (tp (ix o)).1 := by omega
            have n13 : ¬ ((0 ≤ i.toInt ∧ 0 ≤ m.toInt ∧ i.toInt + m.toInt ≤ (tp (ix t)).2.1) ∧ (0 ≤ j.toInt ∧ 0 ≤ m.toInt ∧ j.toInt + m.toInt ≤ (tp (ix o)).2.1)) → cm_Ex l g 3 0 0 mX12_shift 98 [.ref 73, .int t, .int i, .int o, .int j, .int m, .float 0] [] I L (RR u hr tl) (DD u) Q := fun h => by
              have hq := hno (fun e => h e.2.2.2) I L M KC_rfl
              unfold shiA at hq
              rw [if_pos ⟨hb, ob⟩, if_neg nt, if_pos es] at hq
              refine x_bipush (v := -13) qX12_shift_98 rfl ?_
              refine x_iret qX12_shift_100 rfl rfl ?_
              exact hq
            refine x_ild qX12_shift_57 rfl ?_
            refine x_if_lt (tgt := 98) qX12_shift_59 (by omega) (fun k1 => ?_) (fun k1 => ?_)
            · rw [Int32.lt_iff_toInt_lt, z0] at k1
              exact n13 (fun e => by omega)
            · rw [Int32.lt_iff_toInt_lt, z0] at k1
              refine x_ildn qX12_shift_62 rfl ?_
              refine x_if_lt (tgt := 98) qX12_shift_63 (by omega) (fun k2 => ?_) (fun k2 => ?_)
              · rw [Int32.lt_iff_toInt_lt, z0] at k2
                exact n13 (fun e => by omega)
              · rw [Int32.lt_iff_toInt_lt, z0] at k2
                refine x_ild qX12_shift_66 rfl ?_
                refine x_if_lt (tgt := 98) qX12_shift_68 (by omega) (fun k3 => ?_) (fun k3 => ?_)
                · rw [Int32.lt_iff_toInt_lt, z0] at k3
                  exact n13 (fun e => by omega)
                · rw [Int32.lt_iff_toInt_lt, z0] at k3
                  have s1 := sub_toInt (k := (tp (ix t)).2.1) (m := m) t2 (by omega)
                  have s2 := sub_toInt (k := (tp (ix o)).2.1) (m := m) o2 (by omega)
                  refine x_ildn qX12_shift_71 rfl ?_
                  refine x_aldn qX12_shift_72 rfl trivial ?_
                  refine x_getR qX12_shift_73 fX12_139 rfl rfl ?_
                  refine x_ildn qX12_shift_76 rfl ?_
                  refine x_ialde qX12_shift_77 dd_103 et (by omega) (by decide) t5 ?_
                  refine x_ild qX12_shift_78 rfl ?_
                  refine x_isub qX12_shift_80 ?_
                  refine x_icmp_gt (tgt := 98) qX12_shift_81 (by omega) (fun k4 => ?_) (fun k4 => ?_)
                  · rw [Int32.lt_iff_toInt_lt, s1] at k4
                    exact n13 (fun e => by omega)
                  · rw [Int32.lt_iff_toInt_lt, s1] at k4
                    refine x_ild qX12_shift_84 rfl ?_
                    refine x_aldn qX12_shift_86 rfl trivial ?_
                    refine x_getR qX12_shift_87 fX12_139 rfl rfl ?_
                    refine x_ildn qX12_shift_90 rfl ?_
                    refine x_ialde qX12_shift_91 dd_103 eo (by omega) (by decide) o5 ?_
                    refine x_ild qX12_shift_92 rfl ?_
                    refine x_isub qX12_shift_94 ?_
                    refine x_icmp_le (tgt := 101) qX12_shift_95 (by omega) (fun k5 => ?_) (fun k5 => ?_)
                    · rw [Int32.le_iff_toInt_le, s2] at k5
                      have hq := hok ⟨⟨hb, ob⟩, ⟨by omega, by omega⟩, es, ⟨by omega, by omega, by omega⟩, ⟨by omega, by omega, by omega⟩⟩
                      have ei := nI_ix (x := i) (by omega)
                      have ej := nI_ix (x := j) (by omega)
                      have em := nI_ix (x := m) (by omega)
                      have hi2 : ix i + ix m ≤ (tp (ix t)).2.1 := by have a := ix_toInt (x := i) (by omega); have b := ix_toInt (x := m) (by omega); omega
                      have hj2 : ix j + ix m ≤ (tp (ix o)).2.1 := by have a := ix_toInt (x := j) (by omega); have b := ix_toInt (x := m) (by omega); omega
                      generalize ix i = i' at *
                      generalize ix j = j' at *
                      generalize ix m = m' at *
                      generalize ix t = t' at *
                      generalize ix o = o' at *
                      subst ei; subst ej; subst em; subst et; subst eo
                      have loop2 : ∀ k c L', c + k = m' → (∀ q, q < m' → L' 105 q = (tp t').2.2 (i' + q)) → (∀ q, q < c → L' 104 (60 * o' + j' + q) = (tp t').2.2 (i' + q)) → (∀ q, q < 60 * o' + j' ∨ 60 * o' + j' + m' ≤ q → L' 104 q = L 104 q) → (∀ b, b ≠ 104 → b ≠ 105 → L' b = L b) → cm_Ex l g 3 0 0 mX12_shift 141 [.ref 73, .int (nI t'), .int (nI i'), .int (nI o'), .int (nI j'), .int (nI m'), .int (nI c)] [] I L' (RR u hr tl) (DD u) Q := by
                        intro k
                        induction k with
                        | zero =>
                          intro c L' hc ha hz hL hB
                          refine x_ild qX12_shift_141 rfl ?_
                          refine x_ild qX12_shift_143 rfl ?_
                          refine x_icmp_ge_nt (tgt := 176) qX12_shift_145 (by omega) (by omega) (by omega) (by omega) ?_
                          refine x_ild qX12_shift_176 rfl ?_
                          refine x_iret qX12_shift_178 rfl rfl ?_
                          refine hq I L' (MI_tp M (MTP_u T lo o1 o2 o3 o4 o5 (fun q hq2 => ?_) (fun q hq => ⟨rfl, rfl⟩) (fun q hq2 => hL q (by omega))) (fun b h1 h2 => rfl)) (fun b hb2 => ⟨rfl, hB b (by omega) (by omega)⟩)
                          show _ = (if j' ≤ q ∧ q < j' + m' then (tp t').2.2 (i' + (q - j')) else (tp o').2.2 q)
                          by_cases e : j' ≤ q ∧ q < j' + m'
                          · rw [if_pos e, show 60 * o' + q = 60 * o' + j' + (q - j') by omega]
                            exact hz _ (by omega)
                          · rw [if_neg e, hL _ (by omega)]; exact o6 q hq2
                        | succ k ih =>
                          intro c L' hc ha hz hL hB
                          refine x_ild qX12_shift_141 rfl ?_
                          refine x_ild qX12_shift_143 rfl ?_
                          refine x_icmp_ge_nf (tgt := 176) qX12_shift_145 (by omega) (by omega) (by omega) (by omega) ?_
                          refine x_aldn qX12_shift_148 rfl trivial ?_
                          refine x_getR qX12_shift_149 fX12_142 rfl rfl ?_
                          refine x_bipush (v := nI 60) qX12_shift_152 rfl ?_
                          refine x_ildn qX12_shift_154 rfl ?_
                          refine x_imul_n qX12_shift_155 ?_
                          refine x_ild qX12_shift_156 rfl ?_
                          refine x_iadd_n qX12_shift_158 ?_
                          refine x_ild qX12_shift_159 rfl ?_
                          refine x_iadd_n qX12_shift_161 ?_
                          refine x_aldn qX12_shift_162 rfl trivial ?_
                          refine x_getR qX12_shift_163 fX12_146 rfl rfl ?_
                          refine x_ild qX12_shift_166 rfl ?_
                          refine x_lalde qX12_shift_168 dd_105 rfl (by omega) (by decide) (ha c (by omega)) ?_
                          refine x_last qX12_shift_169 dd_104 rfl (by omega) (by decide) ?_
                          refine x_iinc6 qX12_shift_170 (by decide) (cm_inc _) rfl ?_
                          refine x_goto (tgt := 141) qX12_shift_173 (by omega) ?_
                          refine ih (c + 1) _ (by omega) (fun q hq2 => by rw [rdB (by decide)]; exact ha q hq2) (fun q hq2 => ?_) (fun q hq2 => by rw [rdK (by omega)]; exact hL q hq2) (fun b h1 h2 => by rw [cm_u_ne h1]; exact hB b h1 h2)
                          by_cases e : q = c
                          · subst e; exact rdE
                          · rw [rdK (by omega)]; exact hz q (by omega)
                      have loop1 : ∀ k c L', c + k = m' → (∀ q, q < c → L' 105 q = (tp t').2.2 (i' + q)) → (∀ b, b ≠ 105 → L' b = L b) → cm_Ex l g 3 0 0 mX12_shift 104 [.ref 73, .int (nI t'), .int (nI i'), .int (nI o'), .int (nI j'), .int (nI m'), .int (nI c)] [] I L' (RR u hr tl) (DD u) Q := by
                        intro k
                        induction k with
                        | zero =>
                          intro c L' hc ha hB
                          refine x_ild qX12_shift_104 rfl ?_
                          refine x_ild qX12_shift_106 rfl ?_
                          refine x_icmp_ge_nt (tgt := 138) qX12_shift_108 (by omega) (by omega) (by omega) (by omega) ?_
                          refine x_iconst (v := nI 0) qX12_shift_138 rfl ?_
                          refine x_ist6 qX12_shift_139 (by decide) rfl ?_
                          exact loop2 m' 0 L' (by omega) (fun q hq2 => ha q (by omega)) (fun q hq2 => absurd hq2 (by omega)) (fun q _ => by rw [hB 104 (by decide)]) (fun b _ h2 => hB b h2)
                        | succ k ih =>
                          intro c L' hc ha hB
                          have e6 : L' 104 (60 * t' + i' + c) = (tp t').2.2 (i' + c) := by
                            rw [hB 104 (by decide), Nat.add_assoc]; exact t6 (i' + c) (by omega)
                          refine x_ild qX12_shift_104 rfl ?_
                          refine x_ild qX12_shift_106 rfl ?_
                          refine x_icmp_ge_nf (tgt := 138) qX12_shift_108 (by omega) (by omega) (by omega) (by omega) ?_
                          refine x_aldn qX12_shift_111 rfl trivial ?_
                          refine x_getR qX12_shift_112 fX12_146 rfl rfl ?_
                          refine x_ild qX12_shift_115 rfl ?_
                          refine x_aldn qX12_shift_117 rfl trivial ?_
                          refine x_getR qX12_shift_118 fX12_142 rfl rfl ?_
                          refine x_bipush (v := nI 60) qX12_shift_121 rfl ?_
                          refine x_ildn qX12_shift_123 rfl ?_
                          refine x_imul_n qX12_shift_124 ?_
                          refine x_ildn qX12_shift_125 rfl ?_
                          refine x_iadd_n qX12_shift_126 ?_
                          refine x_ild qX12_shift_127 rfl ?_
                          refine x_iadd_n qX12_shift_129 ?_
                          refine x_lalde qX12_shift_130 dd_104 rfl (by omega) (by decide) e6 ?_
                          refine x_last qX12_shift_131 dd_105 rfl (by omega) (by decide) ?_
                          refine x_iinc6 qX12_shift_132 (by decide) (cm_inc _) rfl ?_
                          refine x_goto (tgt := 104) qX12_shift_135 (by omega) ?_
                          refine ih (c + 1) _ (by omega) (fun q hq2 => ?_) (fun b h1 => by rw [cm_u_ne h1]; exact hB b h1)
                          by_cases e : q = c
                          · subst e; exact rdE
                          · rw [rdK e]; exact ha q (by omega)
                      refine x_iconst (v := nI 0) qX12_shift_101 rfl ?_
                      refine x_ist6 qX12_shift_102 (by decide) rfl ?_
                      exact loop1 m' 0 L (by omega) (fun q hq2 => absurd hq2 (by omega)) (fun b _ => rfl)
                    · rw [Int32.le_iff_toInt_le, s2] at k5
                      exact n13 (fun e => by omega)
          · have hq := hno (fun e => by have := e.2.2.1; omega) I L M KC_rfl
            unfold shiA at hq
            rw [if_pos ⟨hb, ob⟩, if_neg nt, if_neg (by omega)] at hq
            refine x_bipush (v := -12) qX12_shift_54 rfl ?_
            refine x_iret qX12_shift_56 rfl rfl ?_
            exact hq
        · rw [Int32.le_iff_toInt_le, z0, os] at h2
          exact n11 (Or.inr (by omega))
    · refine x_if_ne_f (tgt := 18) qX12_shift_13 (by omega) (by decide) ?_
      exact n1 (fun e => by rw [ob] at e; exact absurd e.2 (by decide))
  · refine x_if_eq_t (tgt := 16) qX12_shift_5 (by omega) (by decide) ?_
    exact n1 (fun e => by rw [hb] at e; exact absurd e.1 (by decide))
end M12
