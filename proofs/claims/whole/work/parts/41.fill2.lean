/-! HouseReader.fill -/
section K17
variable {l : Launch} {g : cm_G} {I : cm_I} {L : cm_L} {n h len p : Nat} {hr tl : Option Nat} {Q : cm_Post} {tx : Nat → Nat} {cs : List Cls}
theorem RC_nil (T : TX len tx I) : RC h len tx [] 0 (cm_u (cm_u (fun b i => if (b = hA h + 1 ∨ b = hA h + 2) ∧ i < 16 then 0 else if b = hA h ∧ (i = 3 ∨ i = 4 ∨ i = 5) then 0 else I b i) 9 2 (nI 0)) 9 3 (nI 1)) ∧ FR h I (cm_u (cm_u (fun b i => if (b = hA h + 1 ∨ b = hA h + 2) ∧ i < 16 then 0 else if b = hA h ∧ (i = 3 ∨ i = 4 ∨ i = 5) then 0 else I b i) 9 2 (nI 0)) 9 3 (nI 1)) := by
  have hge := hA_ge h
  have F : FR h I (cm_u (cm_u (fun b i => if (b = hA h + 1 ∨ b = hA h + 2) ∧ i < 16 then 0 else if b = hA h ∧ (i = 3 ∨ i = 4 ∨ i = 5) then 0 else I b i) 9 2 (nI 0)) 9 3 (nI 1)) := by
    intro b h9 hb
    rw [cm_u_ne h9, cm_u_ne h9]
    funext i
    rw [if_neg (by omega), if_neg (by omega)]
  refine ⟨⟨TX_fr T F, Nat.zero_le _, rfl, rfl, by simp [btk], ?_, ?_, ?_, ?_, ?_, ?_⟩, F⟩
  · intro i hi
    rw [cm_u_ne (by omega), cm_u_ne (by omega)]
    show (if _ then _ else _) = _
    rw [if_pos ⟨Or.inl rfl, hi⟩]; rfl
  · intro i hi
    rw [cm_u_ne (by omega), cm_u_ne (by omega)]
    show (if _ then _ else _) = _
    rw [if_pos ⟨Or.inr rfl, hi⟩]; rfl
  · rw [cm_u_ne (by omega), cm_u_ne (by omega)]
    show (if _ then _ else _) = _
    rw [if_neg (by omega), if_pos ⟨rfl, by omega⟩]; rfl
  · intro i t ht; simp [btk] at ht
  · rw [cm_u_ne (by omega), cm_u_ne (by omega)]
    show (if _ then _ else _) = _
    rw [if_neg (by omega), if_pos ⟨rfl, by omega⟩]; rfl
  · rw [cm_u_ne (by omega), cm_u_ne (by omega)]
    show (if _ then _ else _) = _
    rw [if_neg (by omega), if_pos ⟨rfl, by omega⟩]; rfl
theorem RS_r0 {I : cm_I} (S : RC h len tx cs p I) : RF h len tx p (cm_u I 9 3 (nI 0)) := RS_no S
theorem c_X2_fill (hh : h < 7) (T : TX len tx I) (hok : ∀ p' cs' I', pAll (pk len tx) len 12 0 [] = (p', some cs') → RC h len tx cs' p' I' → FR h I I' → Q (some (.int (-1))) I' L (RR n (some (hA h)) tl) (DD n)) (hno : ∀ p' I', pAll (pk len tx) len 12 0 [] = (p', none) → RF h len tx p' I' → FR h I I' → Q (some (.int (nI p'))) I' L (RR n (some (hA h)) tl) (DD n)) : cm_Ex l g 28 0 0 mX2_fill 0 [.ref 9, .ref (hA h), .float 0, .float 0] [] I L (RR n hr tl) (DD n) Q := by
  have exF : ∀ a2 i q I1, i ≤ 12 → RF h len tx q I1 → FR h I I1 → pAll (pk len tx) len 12 0 [] = (q, none) → cm_Ex l g 28 0 0 mX2_fill 113 [.ref 9, .ref (hA h), .int a2, .int (nI i)] [] I1 L (RR n (some (hA h)) tl) (DD n) Q := by
    intro a2 i q I1 hi S1 F1 e
    by_cases h12 : i = 12
    · subst h12
      refine x_iconst (v := nI 0) qX2_fill_113 rfl ?_
      refine x_ist2 qX2_fill_114 (by decide) rfl ?_
      refine x_iinc3 qX2_fill_115 (by decide) (cm_inc _) rfl ?_
      refine x_goto (tgt := 32) qX2_fill_118 (by omega) ?_
      refine x_ildn qX2_fill_32 rfl ?_
      refine x_bipush (v := nI 12) qX2_fill_33 rfl ?_
      refine x_icmp_gt_nt (tgt := 121) qX2_fill_35 (by omega) (by omega) (by omega) (by omega) ?_
      refine x_aldn qX2_fill_121 rfl trivial ?_
      refine x_getZe qX2_fill_122 fX2_19 dd_9 S1.2.2.2.1 ?_
      refine x_if_eq_t (tgt := 132) qX2_fill_125 (by omega) (by decide) ?_
      refine x_aldn qX2_fill_132 rfl trivial ?_
      refine x_getIe qX2_fill_133 fX2_15 dd_9 S1.2.2.1 ?_
      refine x_iret qX2_fill_136 rfl rfl ?_
      exact hno q I1 e S1 F1
    · refine x_iconst (v := nI 0) qX2_fill_113 rfl ?_
      refine x_ist2 qX2_fill_114 (by decide) rfl ?_
      refine x_iinc3 qX2_fill_115 (by decide) (cm_inc _) rfl ?_
      refine x_goto (tgt := 32) qX2_fill_118 (by omega) ?_
      refine x_ildn qX2_fill_32 rfl ?_
      refine x_bipush (v := nI 12) qX2_fill_33 rfl ?_
      refine x_icmp_gt_nf (tgt := 121) qX2_fill_35 (by omega) (by omega) (by omega) (by omega) ?_
      refine x_ildn qX2_fill_38 rfl ?_
      refine x_if_eq_t (tgt := 121) qX2_fill_39 (by omega) (by decide) ?_
      refine x_aldn qX2_fill_121 rfl trivial ?_
      refine x_getZe qX2_fill_122 fX2_19 dd_9 S1.2.2.2.1 ?_
      refine x_if_eq_t (tgt := 132) qX2_fill_125 (by omega) (by decide) ?_
      refine x_aldn qX2_fill_132 rfl trivial ?_
      refine x_getIe qX2_fill_133 fX2_15 dd_9 S1.2.2.1 ?_
      refine x_iret qX2_fill_136 rfl rfl ?_
      exact hno q I1 e S1 F1
  have exT : ∀ a2 i q cs' I1, i ≤ 12 → RC h len tx cs' q I1 → FR h I I1 → pAll (pk len tx) len 12 0 [] = (q, some cs') → cm_Ex l g 28 0 0 mX2_fill 113 [.ref 9, .ref (hA h), .int a2, .int (nI i)] [] I1 L (RR n (some (hA h)) tl) (DD n) Q := by
    intro a2 i q cs' I1 hi S1 F1 e
    by_cases h12 : i = 12
    · subst h12
      refine x_iconst (v := nI 0) qX2_fill_113 rfl ?_
      refine x_ist2 qX2_fill_114 (by decide) rfl ?_
      refine x_iinc3 qX2_fill_115 (by decide) (cm_inc _) rfl ?_
      refine x_goto (tgt := 32) qX2_fill_118 (by omega) ?_
      refine x_ildn qX2_fill_32 rfl ?_
      refine x_bipush (v := nI 12) qX2_fill_33 rfl ?_
      refine x_icmp_gt_nt (tgt := 121) qX2_fill_35 (by omega) (by omega) (by omega) (by omega) ?_
      refine x_aldn qX2_fill_121 rfl trivial ?_
      refine x_getZe qX2_fill_122 fX2_19 dd_9 S1.2.2.2.1 ?_
      refine x_if_eq_f (tgt := 132) qX2_fill_125 (by omega) (by decide) ?_
      refine x_iconst (v := -1) qX2_fill_128 rfl ?_
      refine x_goto (tgt := 136) qX2_fill_129 (by omega) ?_
      refine x_iret qX2_fill_136 rfl rfl ?_
      exact hok q cs' I1 e S1 F1
    · refine x_iconst (v := nI 0) qX2_fill_113 rfl ?_
      refine x_ist2 qX2_fill_114 (by decide) rfl ?_
      refine x_iinc3 qX2_fill_115 (by decide) (cm_inc _) rfl ?_
      refine x_goto (tgt := 32) qX2_fill_118 (by omega) ?_
      refine x_ildn qX2_fill_32 rfl ?_
      refine x_bipush (v := nI 12) qX2_fill_33 rfl ?_
      refine x_icmp_gt_nf (tgt := 121) qX2_fill_35 (by omega) (by omega) (by omega) (by omega) ?_
      refine x_ildn qX2_fill_38 rfl ?_
      refine x_if_eq_t (tgt := 121) qX2_fill_39 (by omega) (by decide) ?_
      refine x_aldn qX2_fill_121 rfl trivial ?_
      refine x_getZe qX2_fill_122 fX2_19 dd_9 S1.2.2.2.1 ?_
      refine x_if_eq_f (tgt := 132) qX2_fill_125 (by omega) (by decide) ?_
      refine x_iconst (v := -1) qX2_fill_128 rfl ?_
      refine x_goto (tgt := 136) qX2_fill_129 (by omega) ?_
      refine x_iret qX2_fill_136 rfl rfl ?_
      exact hok q cs' I1 e S1 F1
  have loop : ∀ m i q cs1 I1, i + m = 13 → 1 ≤ m → 1 ≤ i → RC h len tx cs1 q I1 → FR h I I1 → pAll (pk len tx) len 12 0 [] = pAll (pk len tx) len m q cs1 → cm_Ex l g 28 0 0 mX2_fill 32 [.ref 9, .ref (hA h), .int (nI 1), .int (nI i)] [] I1 L (RR n (some (hA h)) tl) (DD n) Q := by
    intro m
    induction m with
    | zero => intro i q cs1 I1 _ hm; omega
    | succ m ih =>
      intro i q cs1 I1 hi hm h1 S1 F1 e
      have e' : pAll (pk len tx) len (m + 1) q cs1 = pbd (pCl (pk len tx) q) fun p' cl => if p' < len then (if m = 0 then (p', none) else if pk len tx p' = 59 then pAll (pk len tx) len m (p' + 1) (cs1 ++ [cl]) else (p', none)) else (p', some (cs1 ++ [cl])) := rfl
      rw [e'] at e
      refine x_ildn qX2_fill_32 rfl ?_
      refine x_bipush (v := nI 12) qX2_fill_33 rfl ?_
      refine x_icmp_gt_nf (tgt := 121) qX2_fill_35 (by omega) (by omega) (by omega) (by omega) ?_
      refine x_ildn qX2_fill_38 rfl ?_
      refine x_if_eq_f (tgt := 121) qX2_fill_39 (by omega) (by decide) ?_
      refine x_aldn qX2_fill_42 rfl trivial ?_
      refine x_cV0 (d' := 27) qX2_fill_43 cX2_32 dd_9 ⟨_, rfl, rfl⟩ rfl rfl (Nat.le_of_ble_eq_true rfl) (Nat.le_of_ble_eq_true rfl) (by omega) ?_
      refine c_X2_readClause hh S1 (fun p2 cl I2 e1 S2 F2 => ?_) (fun p2 I2 e1 S2 F2 => ?_)
      · rw [pbd_eq e1] at e
        have hl := S2.1.2.1
        have hp := S2.2.1
        by_cases hlt : p2 < len
        · rw [if_pos hlt] at e
          by_cases hm0 : m = 0
          · subst hm0
            rw [if_pos rfl] at e
            have e12 : i = 12 := by omega
            subst e12
            have S3 := RS_r0 S2
            refine x_aldn qX2_fill_46 rfl trivial ?_
            refine x_getZe qX2_fill_47 fX2_19 dd_9 S2.2.2.2.1 ?_
            refine x_if_eq_f (tgt := 71) qX2_fill_50 (by omega) (by decide) ?_
            refine x_aldn qX2_fill_53 rfl trivial ?_
            refine x_getIe qX2_fill_54 fX2_15 dd_9 S2.2.2.1 ?_
            refine x_aldn qX2_fill_57 rfl trivial ?_
            refine x_getR qX2_fill_58 fX2_23 dd_9 rfl ?_
            refine x_getIe qX2_fill_61 fX2_35 dd_7 S2.1.1 ?_
            refine x_icmp_ge_nf (tgt := 71) qX2_fill_64 (by omega) (by omega) (by omega) (by omega) ?_
            refine x_iconst (v := nI 1) qX2_fill_67 rfl ?_
            refine x_goto (tgt := 72) qX2_fill_68 (by omega) ?_
            refine x_ist2 qX2_fill_72 (by decide) rfl ?_
            refine x_ildn qX2_fill_73 rfl ?_
            refine x_if_eq_f (tgt := 98) qX2_fill_74 (by omega) (by decide) ?_
            refine x_aldn qX2_fill_77 rfl trivial ?_
            refine x_ildn qX2_fill_78 rfl ?_
            refine x_bipush (v := nI 12) qX2_fill_79 rfl ?_
            refine x_icmp_ge_nt (tgt := 88) qX2_fill_81 (by omega) (by omega) (by omega) (by omega) ?_
            refine x_iconst (v := nI 0) qX2_fill_88 rfl ?_
            refine x_putZ qX2_fill_89 fX2_19 (Or.inl rfl) dd_9 (by decide) ?_
            refine x_aldn qX2_fill_92 rfl trivial ?_
            refine x_bipush (v := nI 59) qX2_fill_93 rfl ?_
            refine x_cV1 (d' := 2) qX2_fill_95 cX2_40 dd_9 ⟨_, rfl, rfl⟩ rfl rfl (Nat.le_of_ble_eq_true rfl) (Nat.le_of_ble_eq_true rfl) (by omega) ?_
            refine c_X2_readSign0 S3 (fun I4 S4 F4 => ?_)
            refine x_ildn qX2_fill_98 rfl ?_
            refine x_if_eq_f (tgt := 113) qX2_fill_99 (by omega) (by decide) ?_
            refine x_aldn qX2_fill_102 rfl trivial ?_
            refine x_getZe qX2_fill_103 fX2_19 dd_9 S4.2.2.2.1 ?_
            refine x_if_eq_t (tgt := 113) qX2_fill_106 (by omega) (by decide) ?_
            exact exF _ 12 _ _ (by omega) S4 (FR_tr F1 (FR_tr F2 (FR_tr FR_9 F4))) e
          · rw [if_neg hm0] at e
            have S3 := RS_r1 S2
            refine x_aldn qX2_fill_46 rfl trivial ?_
            refine x_getZe qX2_fill_47 fX2_19 dd_9 S2.2.2.2.1 ?_
            refine x_if_eq_f (tgt := 71) qX2_fill_50 (by omega) (by decide) ?_
            refine x_aldn qX2_fill_53 rfl trivial ?_
            refine x_getIe qX2_fill_54 fX2_15 dd_9 S2.2.2.1 ?_
            refine x_aldn qX2_fill_57 rfl trivial ?_
            refine x_getR qX2_fill_58 fX2_23 dd_9 rfl ?_
            refine x_getIe qX2_fill_61 fX2_35 dd_7 S2.1.1 ?_
            refine x_icmp_ge_nf (tgt := 71) qX2_fill_64 (by omega) (by omega) (by omega) (by omega) ?_
            refine x_iconst (v := nI 1) qX2_fill_67 rfl ?_
            refine x_goto (tgt := 72) qX2_fill_68 (by omega) ?_
            refine x_ist2 qX2_fill_72 (by decide) rfl ?_
            refine x_ildn qX2_fill_73 rfl ?_
            refine x_if_eq_f (tgt := 98) qX2_fill_74 (by omega) (by decide) ?_
            refine x_aldn qX2_fill_77 rfl trivial ?_
            refine x_ildn qX2_fill_78 rfl ?_
            refine x_bipush (v := nI 12) qX2_fill_79 rfl ?_
            refine x_icmp_ge_nf (tgt := 88) qX2_fill_81 (by omega) (by omega) (by omega) (by omega) ?_
            refine x_iconst (v := nI 1) qX2_fill_84 rfl ?_
            refine x_goto (tgt := 89) qX2_fill_85 (by omega) ?_
            refine x_putZ qX2_fill_89 fX2_19 (Or.inl rfl) dd_9 (by decide) ?_
            refine x_aldn qX2_fill_92 rfl trivial ?_
            refine x_bipush (v := nI 59) qX2_fill_93 rfl ?_
            refine x_cV1 (d' := 2) qX2_fill_95 cX2_40 dd_9 ⟨_, rfl, rfl⟩ rfl rfl (Nat.le_of_ble_eq_true rfl) (Nat.le_of_ble_eq_true rfl) (by omega) ?_
            refine c_X2_readSign (by omega) S3 (fun I4 e2 S4 F4 => ?_) (fun I4 e2 S4 F4 => ?_)
            · unfold pSg at e2
              by_cases h59 : pk len tx p2 = 59
              · rw [if_pos h59] at e
                refine x_ildn qX2_fill_98 rfl ?_
                refine x_if_eq_f (tgt := 113) qX2_fill_99 (by omega) (by decide) ?_
                refine x_aldn qX2_fill_102 rfl trivial ?_
                refine x_getZe qX2_fill_103 fX2_19 dd_9 S4.2.2.2.1 ?_
                refine x_if_eq_f (tgt := 113) qX2_fill_106 (by omega) (by decide) ?_
                refine x_iconst (v := nI 1) qX2_fill_109 rfl ?_
                refine x_goto (tgt := 114) qX2_fill_110 (by omega) ?_
                refine x_ist2 qX2_fill_114 (by decide) rfl ?_
                refine x_iinc3 qX2_fill_115 (by decide) (cm_inc _) rfl ?_
                refine x_goto (tgt := 32) qX2_fill_118 (by omega) ?_
                exact ih (i + 1) _ _ _ (by omega) (by omega) (by omega) S4 (FR_tr F1 (FR_tr F2 (FR_tr FR_9 F4))) e
              · rw [if_neg h59] at e2; cases e2
            · unfold pSg at e2
              by_cases h59 : pk len tx p2 = 59
              · rw [if_pos h59] at e2; cases e2
              · rw [if_neg h59] at e
                refine x_ildn qX2_fill_98 rfl ?_
                refine x_if_eq_f (tgt := 113) qX2_fill_99 (by omega) (by decide) ?_
                refine x_aldn qX2_fill_102 rfl trivial ?_
                refine x_getZe qX2_fill_103 fX2_19 dd_9 S4.2.2.2.1 ?_
                refine x_if_eq_t (tgt := 113) qX2_fill_106 (by omega) (by decide) ?_
                exact exF _ i _ _ (by omega) S4 (FR_tr F1 (FR_tr F2 (FR_tr FR_9 F4))) e
        · rw [if_neg hlt] at e
          refine x_aldn qX2_fill_46 rfl trivial ?_
          refine x_getZe qX2_fill_47 fX2_19 dd_9 S2.2.2.2.1 ?_
          refine x_if_eq_f (tgt := 71) qX2_fill_50 (by omega) (by decide) ?_
          refine x_aldn qX2_fill_53 rfl trivial ?_
          refine x_getIe qX2_fill_54 fX2_15 dd_9 S2.2.2.1 ?_
          refine x_aldn qX2_fill_57 rfl trivial ?_
          refine x_getR qX2_fill_58 fX2_23 dd_9 rfl ?_
          refine x_getIe qX2_fill_61 fX2_35 dd_7 S2.1.1 ?_
          refine x_icmp_ge_nt (tgt := 71) qX2_fill_64 (by omega) (by omega) (by omega) (by omega) ?_
          refine x_iconst (v := nI 0) qX2_fill_71 rfl ?_
          refine x_ist2 qX2_fill_72 (by decide) rfl ?_
          refine x_ildn qX2_fill_73 rfl ?_
          refine x_if_eq_t (tgt := 98) qX2_fill_74 (by omega) (by decide) ?_
          refine x_ildn qX2_fill_98 rfl ?_
          refine x_if_eq_t (tgt := 113) qX2_fill_99 (by omega) (by decide) ?_
          exact exT _ i _ _ _ (by omega) S2 (FR_tr F1 F2) e
      · rw [pbd_no e1] at e
        refine x_aldn qX2_fill_46 rfl trivial ?_
        refine x_getZe qX2_fill_47 fX2_19 dd_9 S2.2.2.2.1 ?_
        refine x_if_eq_t (tgt := 71) qX2_fill_50 (by omega) (by decide) ?_
        refine x_iconst (v := nI 0) qX2_fill_71 rfl ?_
        refine x_ist2 qX2_fill_72 (by decide) rfl ?_
        refine x_ildn qX2_fill_73 rfl ?_
        refine x_if_eq_t (tgt := 98) qX2_fill_74 (by omega) (by decide) ?_
        refine x_ildn qX2_fill_98 rfl ?_
        refine x_if_eq_t (tgt := 113) qX2_fill_99 (by omega) (by decide) ?_
        exact exF _ i _ _ (by omega) S2 (FR_tr F1 F2) e
  have N := RC_nil (h := h) T
  refine x_aldn qX2_fill_0 rfl trivial ?_
  refine x_ifnonnull (tgt := 6) qX2_fill_1 (by omega) ?_
  refine x_aldn qX2_fill_6 rfl trivial ?_
  refine x_aldn qX2_fill_7 rfl trivial ?_
  refine x_putR qX2_fill_8 fX2_9 (Or.inl rfl) dd_9 (cm_rvs _) ?_
  refine x_memR rr_u_hr ?_
  refine x_aldn qX2_fill_11 rfl trivial ?_
  refine x_getR qX2_fill_12 fX2_9 dd_9 rfl ?_
  refine x_cV0 (d' := 1) qX2_fill_15 cX2_27 (dd_hA hh).1 ⟨_, rfl, rfl⟩ rfl rfl (Nat.le_of_ble_eq_true rfl) (Nat.le_of_ble_eq_true rfl) (by omega) ?_
  refine c_X1_empty hh ?_
  refine x_aldn qX2_fill_18 rfl trivial ?_
  refine x_iconst (v := nI 0) qX2_fill_19 rfl ?_
  refine x_putI qX2_fill_20 fX2_15 (Or.inl rfl) dd_9 ?_
  refine x_aldn qX2_fill_23 rfl trivial ?_
  refine x_iconst (v := nI 1) qX2_fill_24 rfl ?_
  refine x_putZ qX2_fill_25 fX2_19 (Or.inl rfl) dd_9 (by decide) ?_
  refine x_iconst (v := nI 1) qX2_fill_28 rfl ?_
  refine x_ist2 qX2_fill_29 (by decide) rfl ?_
  refine x_iconst (v := nI 1) qX2_fill_30 rfl ?_
  refine x_ist3 qX2_fill_31 (by decide) rfl ?_
  exact loop 12 1 0 [] _ (by omega) (by omega) (by omega) N.1 N.2 rfl
end K17
