/-! the reference: image, undo, act, trace, taken, count -/
section M10
variable {l : Launch} {g : cm_G} {I : cm_I} {L : cm_L} {hr tl : Option Nat} {Q : cm_Post} {u : Nat} {n : Nat} {kd mm : Nat → Nat} {len : Nat} {tx : Nat → Nat} {hs : List (List Cls)} {hx c1 : Nat} {w1 : Nat → Nat} {c2 : Nat} {w2 : Nat → Nat} {im : IM} {s : List Nat} {tp : TP}
theorem MI_tr {I' : cm_I} {s' : List Nat} (M : MI n kd mm len tx hs hx c1 w1 c2 w2 im s tp I L) (T : MTR s' I') (hl : s'.length < 1000) (F : FM I I') : MI n kd mm len tx hs hx c1 w1 c2 w2 im s' tp I' L := by
  obtain ⟨a1, a2, ⟨b1, b2, b3⟩, ⟨d1, d2⟩, e1, e2, f, ⟨g1, g2⟩, kk⟩ := M
  have hI : ∀ b, 74 ≤ b → b ≠ 101 → I' b = I b := fun b h1 h2 => F.1 b (by omega) h2
  have hk := F.2
  refine ⟨MH_fr a1 (hk 0 (by decide)) (hk 1 (by decide)) (hI 74 (by decide) (by decide)) (hI 75 (by decide) (by decide)), MX_fr a2 (hk 6 (by decide)) (hI 76 (by decide) (by decide)), ⟨(hk 4 (by decide)).trans b1, b2, fun h cs hh => MHS_fr (b3 h cs hh) (fun b h1 h2 => hI b (by omega) (by omega))⟩, ⟨d1, (hk 5 (by decide)).trans d2⟩, ?_, ?_, ?_, ⟨T, hl⟩, ?_⟩
  · exact MMT_fr e1 (by rw [hI 86 (by decide) (by decide)]) (hI 85 (by decide) (by decide))
  · exact MMT_fr e2 (by rw [hI 86 (by decide) (by decide)]) (hI 85 (by decide) (by decide))
  · exact MIMG_fr f (hk 35 (by decide)) (hk 36 (by decide)) (hI 99 (by decide) (by decide)) (hI 100 (by decide) (by decide))
  · exact MTP_fr kk (hI 102 (by decide) (by decide)) (hI 103 (by decide) (by decide)) rfl
theorem c_X12_act {t a x : Int32} (M : MI n kd mm len tx hs hx c1 w1 c2 w2 im s tp I L) (hno : (inB t n && inB a 3) = false → KMQ Q (.int 0) u hr tl (MI n kd mm len tx hs hx c1 w1 c2 w2 im [] tp) I L) (hok : (inB t n && inB a 3) = true → KMQ Q (.int (evl (ix t) (mm (ix t)) (kd (ix t)) 8 (kd (ix t)) (ix a) x).1) u hr tl (MI n kd mm len tx hs hx c1 w1 c2 w2 im (evl (ix t) (mm (ix t)) (kd (ix t)) 8 (kd (ix t)) (ix a) x).2 tp) I L) : cm_Ex l g 9 0 0 mX12_act 0 [.ref 73, .int t, .int a, .int x] [] I L (RR u hr tl) (DD u) Q := by
  obtain ⟨h4, ho, hk, h64, h0, h1, hi⟩ := id M.1
  have z0 : (nI 0).toInt = 0 := by decide
  have z2 : (nI 2).toInt = 2 := by decide
  have T0 : MTR [] (cm_u I 73 39 (nI 0)) := ⟨rdE, fun i hi => absurd hi (by simp)⟩
  have F0 : FM I (cm_u I 73 39 (nI 0)) := ⟨fun b h1 _ => cm_u_ne h1, fun k h => rdK h⟩
  have M0 : MI n kd mm len tx hs hx c1 w1 c2 w2 im [] tp (cm_u I 73 39 (nI 0)) L := MI_tr M T0 (by decide) F0
  have kc : ∀ {I'}, FM I I' → KC I I' L L := fun F b hb => ⟨F.1 b (by omega) (by omega), rfl⟩
  have no : (inB t n && inB a 3) = false → cm_Ex l g 9 0 0 mX12_act 23 [.ref 73, .int t, .int a, .int x] [] (cm_u I 73 39 (nI 0)) L (RR u hr tl) (DD u) Q := fun e => by
    refine x_iconst (v := nI 0) qX12_act_23 rfl ?_
    refine x_iret qX12_act_24 rfl rfl ?_
    exact hno e _ L M0 (kc F0)
  refine x_aldn qX12_act_0 rfl trivial ?_
  refine x_iconst (v := nI 0) qX12_act_1 rfl ?_
  refine x_putI qX12_act_2 fX12_130 (Or.inl rfl) rfl ?_
  refine x_aldn qX12_act_5 rfl trivial ?_
  refine x_ildn qX12_act_6 rfl ?_
  refine x_cV1 (d' := 2) qX12_act_7 cX12_153 rfl ⟨_, rfl, rfl⟩ rfl rfl (Nat.le_of_ble_eq_true rfl) (Nat.le_of_ble_eq_true rfl) (by decide) ?_
  refine c_X12_isThing M0.1 (fun hb => ?_) (fun hb => ?_)
  · refine x_if_eq_f (tgt := 23) qX12_act_10 (by omega) (by decide) ?_
    refine x_aldn qX12_act_13 rfl trivial ?_
    refine x_ildn qX12_act_14 rfl ?_
    refine x_iconst (v := nI 0) qX12_act_15 rfl ?_
    refine x_iconst (v := nI 2) qX12_act_16 rfl ?_
    refine x_cV3 (d' := 1) qX12_act_17 cX12_149 rfl ⟨_, rfl, rfl⟩ rfl rfl (Nat.le_of_ble_eq_true rfl) (Nat.le_of_ble_eq_true rfl) (by decide) ?_
    refine c_X12_in (fun h => ?_) (fun h => ?_)
    · rw [z0, z2] at h
      have ha : inB a 3 = true := inB_iff.mpr (by omega)
      have hq := hok (by rw [hb, ha]; rfl)
      obtain ⟨et, lt⟩ := inB_ix hb
      obtain ⟨ea, la⟩ := inB_ix ha
      generalize ix t = j at *
      have hm := ho j lt
      have A0 : AH j (mm j) (kd j) (cm_u I 73 39 (nI 0)) := ⟨by rw [rdB (by decide)]; exact (hi j lt).1, by rw [rdB (by decide)]; exact (hi j lt).2, by omega, hk j lt⟩
      have ev := @evl_r j (mm j) (kd j) x (hk j lt)
      have ll := @evl_len j (mm j) (kd j) 8 (kd j) (ix a) x
      have lt8 : (2 : Nat) ^ 8 = 256 := rfl
      have fin : ∀ I', MTR ([] ++ (evl j (mm j) (kd j) 8 (kd j) (ix a) x).2) I' → FM (cm_u I 73 39 (nI 0)) I' → Q (some (.int (evl j (mm j) (kd j) 8 (kd j) (ix a) x).1)) I' L (RR u hr tl) (DD u) := fun I' T F => by
        rw [List.nil_append] at T
        exact hq I' L (MI_tr M T (by omega) (FM_tr F0 F)) (kc (FM_tr F0 F))
      refine x_if_ne_t (tgt := 25) qX12_act_20 (by omega) (by decide) ?_
      rcases (by omega : ix a = 0 ∨ ix a = 1 ∨ ix a = 2) with e | e | e
      · rw [e] at ea fin
        rw [ev.1] at fin
        subst ea
        refine x_ildn qX12_act_25 rfl ?_
        refine x_if_ne_f (tgt := 38) qX12_act_26 (by omega) (by decide) ?_
        refine x_aldn qX12_act_29 rfl trivial ?_
        refine x_ildn qX12_act_30 rfl ?_
        refine x_topI et ?_
        refine x_ildn qX12_act_31 rfl ?_
        refine x_cV2 (d' := 3) qX12_act_32 cX12_284 rfl ⟨_, rfl, rfl⟩ rfl rfl (Nat.le_of_ble_eq_true rfl) (Nat.le_of_ble_eq_true rfl) (by decide) ?_
        refine c_X12_takesAct A0 T0 (by decide) (fun I' T F => ?_)
        refine x_goto (tgt := 58) qX12_act_35 (by omega) ?_
        refine x_iret qX12_act_58 rfl rfl ?_
        exact fin I' T F
      · rw [e] at ea fin
        rw [ev.2.1] at fin
        subst ea
        refine x_ildn qX12_act_25 rfl ?_
        refine x_if_ne_t (tgt := 38) qX12_act_26 (by omega) (by decide) ?_
        refine x_ildn qX12_act_38 rfl ?_
        refine x_iconst (v := nI 1) qX12_act_39 rfl ?_
        refine x_icmp_ne_nf (tgt := 52) qX12_act_40 (by omega) (by omega) (by omega) rfl ?_
        refine x_aldn qX12_act_43 rfl trivial ?_
        refine x_ildn qX12_act_44 rfl ?_
        refine x_topI et ?_
        refine x_ildn qX12_act_45 rfl ?_
        refine x_cV2 (d' := 6) qX12_act_46 cX12_293 rfl ⟨_, rfl, rfl⟩ rfl rfl (Nat.le_of_ble_eq_true rfl) (Nat.le_of_ble_eq_true rfl) (by decide) ?_
        refine c_X12_followsAct A0 T0 (by decide) (fun I' T F => ?_)
        refine x_goto (tgt := 58) qX12_act_49 (by omega) ?_
        refine x_iret qX12_act_58 rfl rfl ?_
        exact fin I' T F
      · rw [e] at ea fin
        rw [ev.2.2] at fin
        subst ea
        refine x_ildn qX12_act_25 rfl ?_
        refine x_if_ne_t (tgt := 38) qX12_act_26 (by omega) (by decide) ?_
        refine x_ildn qX12_act_38 rfl ?_
        refine x_iconst (v := nI 1) qX12_act_39 rfl ?_
        refine x_icmp_ne_nt (tgt := 52) qX12_act_40 (by omega) (by omega) (by omega) (by decide) ?_
        refine x_aldn qX12_act_52 rfl trivial ?_
        refine x_ildn qX12_act_53 rfl ?_
        refine x_topI et ?_
        refine x_ildn qX12_act_54 rfl ?_
        refine x_cV2 (d' := 8) qX12_act_55 cX12_299 rfl ⟨_, rfl, rfl⟩ rfl rfl (Nat.le_of_ble_eq_true rfl) (Nat.le_of_ble_eq_true rfl) (by decide) ?_
        refine c_X12_tellsAct A0 T0 (by decide) (fun I' T F => ?_)
        refine x_iret qX12_act_58 rfl rfl ?_
        exact fin I' T F
    · rw [z0, z2] at h
      refine x_if_ne_f (tgt := 25) qX12_act_20 (by omega) (by decide) ?_
      refine no ?_
      rw [inF (k := 3) (fun e => by have := inB_iff.mp e; omega), Bool.and_false]
  · refine x_if_eq_t (tgt := 23) qX12_act_10 (by omega) (by decide) ?_
    refine no ?_
    rw [hb]; rfl
theorem c_X12_trace {i : Int32} (M : MI n kd mm len tx hs hx c1 w1 c2 w2 im s tp I L) (hQ : KMQ Q (.int (traA s i)) u hr tl (MI n kd mm len tx hs hx c1 w1 c2 w2 im s tp) I L) : cm_Ex l g 2 0 0 mX12_trace 0 [.ref 73, .int i] [] I L (RR u hr tl) (DD u) Q := by
  have hq := hQ I L M KC_rfl
  obtain ⟨T, hl⟩ := M.2.2.2.2.2.2.2.1
  have z0 : (nI 0).toInt = 0 := by decide
  have z19 : (nI 19).toInt = 19 := by decide
  have no : traA s i = -1 → cm_Ex l g 2 0 0 mX12_trace 28 [.ref 73, .int i] [] I L (RR u hr tl) (DD u) Q := fun e => by
    rw [e] at hq
    refine x_iconst (v := -1) qX12_trace_28 rfl ?_
    refine x_iret qX12_trace_29 rfl rfl ?_
    exact hq
  refine x_aldn qX12_trace_0 rfl trivial ?_
  refine x_ildn qX12_trace_1 rfl ?_
  refine x_iconst (v := nI 0) qX12_trace_2 rfl ?_
  refine x_bipush (v := nI 19) qX12_trace_3 rfl ?_
  refine x_cV3 (d' := 1) qX12_trace_5 cX12_149 rfl ⟨_, rfl, rfl⟩ rfl rfl (Nat.le_of_ble_eq_true rfl) (Nat.le_of_ble_eq_true rfl) (by decide) ?_
  refine c_X12_in (fun h => ?_) (fun h => ?_)
  · rw [z0, z19] at h
    have ei := nI_ix (x := i) (by omega)
    have li : ix i < 20 := by unfold ix; omega
    refine x_if_eq_f (tgt := 28) qX12_trace_8 (by omega) (by decide) ?_
    refine x_ildn qX12_trace_11 rfl ?_
    refine x_topI ei ?_
    refine x_aldn qX12_trace_12 rfl trivial ?_
    refine x_getIe qX12_trace_13 fX12_130 rfl T.1 ?_
    refine x_icmp_ge_n (tgt := 28) qX12_trace_16 (by omega) (by omega) (by omega) (fun h16 => no ?_) (fun h16 => ?_)
    · unfold traA
      rw [if_neg (fun e => by rw [Bool.and_eq_true] at e; have := inB_iff.mp e.1; unfold ix at h16; omega)]
    · have ev : traA s i = nI (s.getD (ix i) 0) := by
        unfold traA
        rw [inB_iff.mpr (by unfold ix at h16; omega), decide_eq_true (show i.toInt < 20 by omega)]; rfl
      rw [ev] at hq
      refine x_aldn qX12_trace_19 rfl trivial ?_
      refine x_getR qX12_trace_20 fX12_133 rfl rfl ?_
      refine x_ildn qX12_trace_23 rfl ?_
      refine x_topI ei ?_
      refine x_ialde qX12_trace_24 dd_101 rfl (by omega) (by decide) (T.2 (ix i) h16 li) ?_
      refine x_goto (tgt := 29) qX12_trace_25 (by omega) ?_
      refine x_iret qX12_trace_29 rfl rfl ?_
      exact hq
  · rw [z0, z19] at h
    refine x_if_eq_t (tgt := 28) qX12_trace_8 (by omega) (by decide) ?_
    refine no ?_
    unfold traA
    rw [if_neg (fun e => by rw [Bool.and_eq_true, decide_eq_true_eq] at e; have := inB_iff.mp e.1; omega)]
theorem c_X12_taken {t k : Int32} (M : MI n kd mm len tx hs hx c1 w1 c2 w2 im s tp I L) (hQ : KMQ Q (.int (takA n kd t k)) u hr tl (MI n kd mm len tx hs hx c1 w1 c2 w2 im s tp) I L) : cm_Ex l g 3 0 0 mX12_taken 0 [.ref 73, .int t, .int k] [] I L (RR u hr tl) (DD u) Q := by
  have hq := hQ I L M KC_rfl
  obtain ⟨h4, ho, hk7, h64, h0, h1, hi⟩ := id M.1
  have z0 : (nI 0).toInt = 0 := by decide
  have z6 : (nI 6).toInt = 6 := by decide
  refine x_aldn qX12_taken_0 rfl trivial ?_
  refine x_ildn qX12_taken_1 rfl ?_
  refine x_iconst (v := nI 0) qX12_taken_2 rfl ?_
  refine x_bipush (v := nI 6) qX12_taken_3 rfl ?_
  refine x_cV3 (d' := 1) qX12_taken_5 cX12_149 rfl ⟨_, rfl, rfl⟩ rfl rfl (Nat.le_of_ble_eq_true rfl) (Nat.le_of_ble_eq_true rfl) (by decide) ?_
  refine c_X12_in (fun h => ?_) (fun h => ?_)
  · rw [z0, z6] at h
    have hkb : inB k 7 = true := inB_iff.mpr (by omega)
    obtain ⟨ek, lk⟩ := inB_ix hkb
    refine x_if_ne_t (tgt := 14) qX12_taken_8 (by omega) (by decide) ?_
    refine x_aldn qX12_taken_14 rfl trivial ?_
    refine x_ildn qX12_taken_15 rfl ?_
    refine x_cV1 (d' := 2) qX12_taken_16 cX12_153 rfl ⟨_, rfl, rfl⟩ rfl rfl (Nat.le_of_ble_eq_true rfl) (Nat.le_of_ble_eq_true rfl) (by decide) ?_
    refine c_X12_isThing M.1 (fun hb => ?_) (fun hb => ?_)
    · obtain ⟨et, lt⟩ := inB_ix hb
      have ev : takA n kd t k = (if undr (kd (ix t)) (ix k) then nI (kd (ix t)) else -12) := by
        unfold takA; rw [if_pos hkb, if_pos hb]
      rw [ev] at hq
      generalize ix t = j at *
      generalize ix k = q at *
      have hkj := hk7 j lt
      have dj := (hi j lt).1
      subst et; subst ek
      refine x_if_ne_t (tgt := 25) qX12_taken_19 (by omega) (by decide) ?_
      refine x_aldn qX12_taken_25 rfl trivial ?_
      refine x_aldn qX12_taken_26 rfl trivial ?_
      refine x_getR qX12_taken_27 fX12_16 rfl rfl ?_
      refine x_ildn qX12_taken_30 rfl ?_
      refine x_ialde qX12_taken_31 dd_74 rfl (by omega) (by decide) dj ?_
      refine x_ildn qX12_taken_32 rfl ?_
      refine x_cV2 (d' := 1) qX12_taken_33 cX12_221 rfl ⟨_, rfl, rfl⟩ rfl rfl (Nat.le_of_ble_eq_true rfl) (Nat.le_of_ble_eq_true rfl) (by decide) ?_
      refine c_X12_isUnder hkj lk ?_
      unfold b2I
      cases hu : undr (kd j) q with
      | true =>
        rw [hu] at hq
        refine x_if_eq_f (tgt := 48) qX12_taken_36 (by omega) (by decide) ?_
        refine x_aldn qX12_taken_39 rfl trivial ?_
        refine x_getR qX12_taken_40 fX12_16 rfl rfl ?_
        refine x_ildn qX12_taken_43 rfl ?_
        refine x_ialde qX12_taken_44 dd_74 rfl (by omega) (by decide) dj ?_
        refine x_goto (tgt := 50) qX12_taken_45 (by omega) ?_
        refine x_iret qX12_taken_50 rfl rfl ?_
        exact hq
      | false =>
        rw [hu] at hq
        refine x_if_eq_t (tgt := 48) qX12_taken_36 (by omega) (by decide) ?_
        refine x_bipush (v := -12) qX12_taken_48 rfl ?_
        refine x_iret qX12_taken_50 rfl rfl ?_
        exact hq
    · have ev : takA n kd t k = -11 := by
        unfold takA; rw [if_pos hkb, if_neg (by rw [hb]; decide)]
      rw [ev] at hq
      refine x_if_ne_f (tgt := 25) qX12_taken_19 (by omega) (by decide) ?_
      refine x_bipush (v := -11) qX12_taken_22 rfl ?_
      refine x_iret qX12_taken_24 rfl rfl ?_
      exact hq
  · rw [z0, z6] at h
    have ev : takA n kd t k = -2 := by
      unfold takA; rw [if_neg (fun e => by have := inB_iff.mp e; omega)]
    rw [ev] at hq
    refine x_if_ne_f (tgt := 14) qX12_taken_8 (by omega) (by decide) ?_
    refine x_bipush (v := -2) qX12_taken_11 rfl ?_
    refine x_iret qX12_taken_13 rfl rfl ?_
    exact hq
theorem c_X12_count {w : Int32} (M : MI n kd mm len tx hs hx c1 w1 c2 w2 im s tp I L) (hQ : KMQ Q (.int (cntA n mm c1 c2 hs.length len s.length w)) u hr tl (MI n kd mm len tx hs hx c1 w1 c2 w2 im s tp) I L) : cm_Ex l g 1 0 0 mX12_count 0 [.ref 73, .int w] [] I L (RR u hr tl) (DD u) Q := by
  have hq := hQ I L M KC_rfl
  obtain ⟨a1, a2, ⟨b1, b2, b3⟩, ⟨d1, d2⟩, e1, e2, f, ⟨g1, g2⟩, kk⟩ := id M
  by_cases h0 : w = 0
  · subst h0
    refine x_ildn qX12_count_0 rfl ?_
    refine x_tbl (tgt := 44) (off := 43) qX12_count_1 0 rfl (by decide) rfl (by omega) ?_
    refine x_aldn qX12_count_44 rfl trivial ?_
    refine x_getIe qX12_count_45 fX12_7 rfl a1.2.2.2.2.1 ?_
    refine x_iret qX12_count_48 rfl rfl ?_
    exact hq
  by_cases h1 : w = 1
  · subst h1
    refine x_ildn qX12_count_0 rfl ?_
    refine x_tbl (tgt := 49) (off := 48) qX12_count_1 1 rfl (by decide) rfl (by omega) ?_
    refine x_aldn qX12_count_49 rfl trivial ?_
    refine x_getIe qX12_count_50 fX12_13 rfl a1.2.2.2.2.2.1 ?_
    refine x_iret qX12_count_53 rfl rfl ?_
    exact hq
  by_cases h2 : w = 2
  · subst h2
    refine x_ildn qX12_count_0 rfl ?_
    refine x_tbl (tgt := 54) (off := 53) qX12_count_1 2 rfl (by decide) rfl (by omega) ?_
    refine x_aldn qX12_count_54 rfl trivial ?_
    refine x_getR qX12_count_55 fX12_77 rfl rfl ?_
    refine x_iconst (v := nI 0) qX12_count_58 rfl ?_
    refine x_ialde qX12_count_59 dd_86 rfl (by omega) (by decide) e1.1 ?_
    refine x_iret qX12_count_60 rfl rfl ?_
    exact hq
  by_cases h3 : w = 3
  · subst h3
    refine x_ildn qX12_count_0 rfl ?_
    refine x_tbl (tgt := 61) (off := 60) qX12_count_1 3 rfl (by decide) rfl (by omega) ?_
    refine x_aldn qX12_count_61 rfl trivial ?_
    refine x_getR qX12_count_62 fX12_77 rfl rfl ?_
    refine x_iconst (v := nI 1) qX12_count_65 rfl ?_
    refine x_ialde qX12_count_66 dd_86 rfl (by omega) (by decide) e2.1 ?_
    refine x_iret qX12_count_67 rfl rfl ?_
    exact hq
  by_cases h4 : w = 4
  · subst h4
    refine x_ildn qX12_count_0 rfl ?_
    refine x_tbl (tgt := 68) (off := 67) qX12_count_1 4 rfl (by decide) rfl (by omega) ?_
    refine x_aldn qX12_count_68 rfl trivial ?_
    refine x_getIe qX12_count_69 fX12_23 rfl b1 ?_
    refine x_iret qX12_count_72 rfl rfl ?_
    exact hq
  by_cases h5 : w = 5
  · subst h5
    refine x_ildn qX12_count_0 rfl ?_
    refine x_tbl (tgt := 73) (off := 72) qX12_count_1 5 rfl (by decide) rfl (by omega) ?_
    refine x_aldn qX12_count_73 rfl trivial ?_
    refine x_getIe qX12_count_74 fX12_29 rfl a2.1 ?_
    refine x_iret qX12_count_77 rfl rfl ?_
    exact hq
  by_cases h6 : w = 6
  · subst h6
    refine x_ildn qX12_count_0 rfl ?_
    refine x_tbl (tgt := 78) (off := 77) qX12_count_1 6 rfl (by decide) rfl (by omega) ?_
    refine x_aldn qX12_count_78 rfl trivial ?_
    refine x_getIe qX12_count_79 fX12_130 rfl g1.1 ?_
    refine x_iret qX12_count_82 rfl rfl ?_
    exact hq
  · have hne : ∀ k : Nat, k < 7 → w = nI k → False := fun k hk e => by
      rcases (by omega : k = 0 ∨ k = 1 ∨ k = 2 ∨ k = 3 ∨ k = 4 ∨ k = 5 ∨ k = 6) with rfl | rfl | rfl | rfl | rfl | rfl | rfl
      · exact h0 e
      · exact h1 e
      · exact h2 e
      · exact h3 e
      · exact h4 e
      · exact h5 e
      · exact h6 e
    have ho : w.toInt < 0 ∨ 6 < w.toInt := by
      by_cases hh : 0 ≤ w.toInt ∧ w.toInt < 7
      · have hb := inB_ix (inB_iff.mpr hh)
        exact (hne _ hb.2 hb.1).elim
      · omega
    have ev : cntA n mm c1 c2 hs.length len s.length w = -2 := by
      unfold cntA
      rw [if_neg h0, if_neg h1, if_neg h2, if_neg h3, if_neg h4, if_neg h5, if_neg h6]
    rw [ev] at hq
    refine x_ildn qX12_count_0 rfl ?_
    refine x_tblOut (tgt := 83) qX12_count_1 ho (by omega) ?_
    refine x_bipush (v := -2) qX12_count_83 rfl ?_
    refine x_iret qX12_count_85 rfl rfl ?_
    exact hq
theorem c_X12_image (M : MI n kd mm len tx hs hx c1 w1 c2 w2 im s tp I L) (hQ : KMQ Q (.int (nI c1)) u hr tl (MI n kd mm len tx hs hx c1 w1 c2 w2 (some (c1, w1, c2, w2, hx)) s tp) I L) : cm_Ex l g 1 0 0 mX12_image 0 [.ref 73, .float 0] [] I L (RR u hr tl) (DD u) Q := by
  obtain ⟨a1, a2, ⟨b1, b2, b3⟩, ⟨d1, d2⟩, e1, e2, f, ⟨g1, g2⟩, kk⟩ := id M
  refine x_aldn qX12_image_0 rfl trivial ?_
  refine x_iconst (v := nI 1) qX12_image_1 rfl ?_
  refine x_putZ qX12_image_2 fX12_117 (Or.inl rfl) rfl (by decide) ?_
  refine x_aldn qX12_image_5 rfl trivial ?_
  refine x_aldn qX12_image_6 rfl trivial ?_
  refine x_getIe qX12_image_7 fX12_26 rfl (show _ = hxI hx from by rw [rdK (by decide)]; exact d2) ?_
  refine x_putI qX12_image_10 fX12_121 (Or.inl rfl) rfl ?_
  refine x_iconst (v := nI 0) qX12_image_13 rfl ?_
  refine x_ist1 qX12_image_14 (by decide) rfl ?_
  have j35 : cm_u (cm_u I 73 35 (nI 1)) 73 36 (hxI hx) 73 35 = 1 := by rw [rdK (by decide), rdE]; rfl
  have j36 : cm_u (cm_u I 73 35 (nI 1)) 73 36 (hxI hx) 73 36 = hxI hx := rdE
  have jk : ∀ k, k ≠ 35 → k ≠ 36 → cm_u (cm_u I 73 35 (nI 1)) 73 36 (hxI hx) 73 k = I 73 k := fun k h1 h2 => by rw [rdK h2, rdK h1]
  have jb : ∀ b, b ≠ 73 → cm_u (cm_u I 73 35 (nI 1)) 73 36 (hxI hx) b = I b := fun b h => by rw [cm_u_ne h, cm_u_ne h]
  generalize cm_u (cm_u I 73 35 (nI 1)) 73 36 (hxI hx) = J at *
  have loop2 : ∀ j k I', k + j = 2 → (∀ i, i < 24 → I' 99 i = I 85 i) → (∀ i, i < k → I' 100 i = I 86 i) → (∀ b, b ≠ 99 → b ≠ 100 → I' b = J b) → cm_Ex l g 1 0 0 mX12_image 41 [.ref 73, .int (nI k)] [] I' L (RR u hr tl) (DD u) Q := by
    intro j
    induction j with
    | zero =>
      intro k I' hk h99 h100 hI
      have gb : ∀ b, b ≠ 73 → b ≠ 99 → b ≠ 100 → I' b = I b := fun b h1 h2 h3 => (hI b h2 h3).trans (jb b h1)
      have h73 := hI 73 (by decide) (by decide)
      have gk : ∀ k, k ≠ 35 → k ≠ 36 → I' 73 k = I 73 k := fun k h1 h2 => by rw [h73]; exact jk k h1 h2
      refine x_ildn qX12_image_41 rfl ?_
      refine x_iconst (v := nI 2) qX12_image_42 rfl ?_
      refine x_icmp_ge_nt (tgt := 64) qX12_image_43 (by omega) (by omega) (by omega) (by omega) ?_
      refine x_aldn qX12_image_64 rfl trivial ?_
      refine x_getR qX12_image_65 fX12_77 rfl rfl ?_
      refine x_iconst (v := nI 0) qX12_image_68 rfl ?_
      refine x_ialde qX12_image_69 dd_86 rfl (by omega) (by decide) (show _ = nI c1 from by rw [gb 86 (by decide) (by decide) (by decide)]; exact e1.1) ?_
      refine x_iret qX12_image_70 rfl rfl ?_
      refine hQ I' L ⟨?_, ?_, ⟨(gk 4 (by decide) (by decide)).trans b1, b2, fun h cs hh => MHS_fr (b3 h cs hh) (fun b h1 h2 => gb b (by omega) (by omega) (by omega))⟩, ⟨d1, (gk 5 (by decide) (by decide)).trans d2⟩, ?_, ?_, ⟨?_, ?_, ?_, ?_, d1⟩, ⟨?_, g2⟩, ?_⟩ (fun b hb => ⟨gb b (by omega) (by omega) (by omega), rfl⟩)
      · exact MH_fr a1 (gk 0 (by decide) (by decide)) (gk 1 (by decide) (by decide)) (gb 74 (by decide) (by decide) (by decide)) (gb 75 (by decide) (by decide) (by decide))
      · exact MX_fr a2 (gk 6 (by decide) (by decide)) (gb 76 (by decide) (by decide) (by decide))
      · exact MMT_fr e1 (by rw [gb 86 (by decide) (by decide) (by decide)]) (gb 85 (by decide) (by decide) (by decide))
      · exact MMT_fr e2 (by rw [gb 86 (by decide) (by decide) (by decide)]) (gb 85 (by decide) (by decide) (by decide))
      · rw [h73]; exact j35
      · exact ⟨by rw [h100 0 (by omega)]; exact e1.1, e1.2.1, fun i hi => by
          have := e1.2.1
          show I' 99 (0 + i) = _ ∧ _
          rw [h99 (0 + i) (by omega)]; exact e1.2.2 i hi⟩
      · exact ⟨by rw [h100 1 (by omega)]; exact e2.1, e2.2.1, fun i hi => by
          have := e2.2.1
          show I' 99 (12 + i) = _ ∧ _
          rw [h99 (12 + i) (by omega)]; exact e2.2.2 i hi⟩
      · rw [h73]; exact j36
      · exact MTR_fr g1 (gk 39 (by decide) (by decide)) (gb 101 (by decide) (by decide) (by decide))
      · exact MTP_fr kk (gb 102 (by decide) (by decide) (by decide)) (gb 103 (by decide) (by decide) (by decide)) rfl
    | succ j ih =>
      intro k I' hk h99 h100 hI
      have e86 : I' 86 k = I 86 k := by rw [hI 86 (by decide) (by decide), jb 86 (by decide)]
      refine x_ildn qX12_image_41 rfl ?_
      refine x_iconst (v := nI 2) qX12_image_42 rfl ?_
      refine x_icmp_ge_nf (tgt := 64) qX12_image_43 (by omega) (by omega) (by omega) (by omega) ?_
      refine x_aldn qX12_image_46 rfl trivial ?_
      refine x_getR qX12_image_47 fX12_127 rfl rfl ?_
      refine x_ildn qX12_image_50 rfl ?_
      refine x_aldn qX12_image_51 rfl trivial ?_
      refine x_getR qX12_image_52 fX12_77 rfl rfl ?_
      refine x_ildn qX12_image_55 rfl ?_
      refine x_ialde qX12_image_56 dd_86 rfl (by omega) (by decide) e86 ?_
      refine x_iast qX12_image_57 dd_100 rfl (by omega) (by decide) ?_
      refine x_iinc1 qX12_image_58 (by decide) (cm_inc _) rfl ?_
      refine x_goto (tgt := 41) qX12_image_61 (by omega) ?_
      refine ih (k + 1) _ (by omega) (fun i hi => by rw [rdB (by decide)]; exact h99 i hi) (fun i hi => ?_) (fun b h1 h2 => by rw [cm_u_ne h2]; exact hI b h1 h2)
      by_cases e : i = k
      · subst e; exact rdE
      · rw [rdK e]; exact h100 i (by omega)
  have loop1 : ∀ j k I', k + j = 24 → (∀ i, i < k → I' 99 i = I 85 i) → (∀ b, b ≠ 99 → I' b = J b) → cm_Ex l g 1 0 0 mX12_image 15 [.ref 73, .int (nI k)] [] I' L (RR u hr tl) (DD u) Q := by
    intro j
    induction j with
    | zero =>
      intro k I' hk h99 hI
      refine x_ildn qX12_image_15 rfl ?_
      refine x_bipush (v := nI 24) qX12_image_16 rfl ?_
      refine x_icmp_ge_nt (tgt := 39) qX12_image_18 (by omega) (by omega) (by omega) (by omega) ?_
      refine x_iconst (v := nI 0) qX12_image_39 rfl ?_
      refine x_ist1 qX12_image_40 (by decide) rfl ?_
      exact loop2 2 0 I' (by omega) (fun i hi => h99 i (by omega)) (fun i hi => absurd hi (by omega)) (fun b h1 _ => hI b h1)
    | succ j ih =>
      intro k I' hk h99 hI
      have e85 : I' 85 k = I 85 k := by rw [hI 85 (by decide), jb 85 (by decide)]
      refine x_ildn qX12_image_15 rfl ?_
      refine x_bipush (v := nI 24) qX12_image_16 rfl ?_
      refine x_icmp_ge_nf (tgt := 39) qX12_image_18 (by omega) (by omega) (by omega) (by omega) ?_
      refine x_aldn qX12_image_21 rfl trivial ?_
      refine x_getR qX12_image_22 fX12_124 rfl rfl ?_
      refine x_ildn qX12_image_25 rfl ?_
      refine x_aldn qX12_image_26 rfl trivial ?_
      refine x_getR qX12_image_27 fX12_74 rfl rfl ?_
      refine x_ildn qX12_image_30 rfl ?_
      refine x_ialde qX12_image_31 dd_85 rfl (by omega) (by decide) e85 ?_
      refine x_iast qX12_image_32 dd_99 rfl (by omega) (by decide) ?_
      refine x_iinc1 qX12_image_33 (by decide) (cm_inc _) rfl ?_
      refine x_goto (tgt := 15) qX12_image_36 (by omega) ?_
      refine ih (k + 1) _ (by omega) (fun i hi => ?_) (fun b h1 => by rw [cm_u_ne h1]; exact hI b h1)
      by_cases e : i = k
      · subst e; exact rdE
      · rw [rdK e]; exact h99 i (by omega)
  exact loop1 24 0 J (by omega) (fun i hi => absurd hi (by omega)) (fun b h1 => rfl)
theorem c_X12_undo (M : MI n kd mm len tx hs hx c1 w1 c2 w2 im s tp I L) (hno : im = none → KMQ Q (.int (-3)) u hr tl (MI n kd mm len tx hs hx c1 w1 c2 w2 im s tp) I L) (hok : ∀ a x b y z, im = some (a, x, b, y, z) → KMQ Q (.int (nI a)) u hr tl (MI n kd mm len tx hs z a x b y im s tp) I L) : cm_Ex l g 1 0 0 mX12_undo 0 [.ref 73, .float 0] [] I L (RR u hr tl) (DD u) Q := by
  obtain ⟨a1, a2, ⟨b1, b2, b3⟩, ⟨d1, d2⟩, e1, e2, f, ⟨g1, g2⟩, kk⟩ := id M
  cases him : im with
  | none =>
    rw [him] at f
    have hq := hno him I L (him ▸ M) KC_rfl
    refine x_aldn qX12_undo_0 rfl trivial ?_
    refine x_getZe qX12_undo_1 fX12_117 rfl (show I 73 35 = 0 from f) ?_
    refine x_if_ne_f (tgt := 10) qX12_undo_4 (by omega) (by decide) ?_
    refine x_bipush (v := -3) qX12_undo_7 rfl ?_
    refine x_iret qX12_undo_9 rfl rfl ?_
    exact hq
  | some q =>
    obtain ⟨a, x, b, y, z⟩ := q
    rw [him] at f
    obtain ⟨m1, m2, m3, m4, m5⟩ := id f
    have hq := hok a x b y z him
    refine x_aldn qX12_undo_0 rfl trivial ?_
    refine x_getZe qX12_undo_1 fX12_117 rfl m1 ?_
    refine x_if_ne_t (tgt := 10) qX12_undo_4 (by omega) (by decide) ?_
    refine x_aldn qX12_undo_10 rfl trivial ?_
    refine x_aldn qX12_undo_11 rfl trivial ?_
    refine x_getIe qX12_undo_12 fX12_121 rfl m4 ?_
    refine x_putI qX12_undo_15 fX12_26 (Or.inl rfl) rfl ?_
    refine x_iconst (v := nI 0) qX12_undo_18 rfl ?_
    refine x_ist1 qX12_undo_19 (by decide) rfl ?_
    have j5 : cm_u I 73 5 (hxI z) 73 5 = hxI z := rdE
    have jk : ∀ k, k ≠ 5 → cm_u I 73 5 (hxI z) 73 k = I 73 k := fun k h1 => rdK h1
    have jb : ∀ b, b ≠ 73 → cm_u I 73 5 (hxI z) b = I b := fun b h => cm_u_ne h
    generalize cm_u I 73 5 (hxI z) = J at *
    have loop2 : ∀ j k I', k + j = 2 → (∀ i, i < 24 → I' 85 i = I 99 i) → (∀ i, i < k → I' 86 i = I 100 i) → (∀ b, b ≠ 85 → b ≠ 86 → I' b = J b) → cm_Ex l g 1 0 0 mX12_undo 46 [.ref 73, .int (nI k)] [] I' L (RR u hr tl) (DD u) Q := by
      intro j
      induction j with
      | zero =>
        intro k I' hk h85 h86 hI
        have gb : ∀ b, b ≠ 73 → b ≠ 85 → b ≠ 86 → I' b = I b := fun b h1 h2 h3 => (hI b h2 h3).trans (jb b h1)
        have h73 := hI 73 (by decide) (by decide)
        have gk : ∀ k, k ≠ 5 → I' 73 k = I 73 k := fun k h1 => by rw [h73]; exact jk k h1
        have M1 : MMT 0 0 a x 86 I' := ⟨by rw [h86 0 (by omega)]; exact m2.1, m2.2.1, fun i hi => by
            have := m2.2.1
            show I' 85 (0 + i) = _ ∧ _
            rw [h85 (0 + i) (by omega)]; exact m2.2.2 i hi⟩
        refine x_ildn qX12_undo_46 rfl ?_
        refine x_iconst (v := nI 2) qX12_undo_47 rfl ?_
        refine x_icmp_ge_nt (tgt := 69) qX12_undo_48 (by omega) (by omega) (by omega) (by omega) ?_
        refine x_aldn qX12_undo_69 rfl trivial ?_
        refine x_getR qX12_undo_70 fX12_77 rfl rfl ?_
        refine x_iconst (v := nI 0) qX12_undo_73 rfl ?_
        refine x_ialde qX12_undo_74 dd_86 rfl (by omega) (by decide) M1.1 ?_
        refine x_iret qX12_undo_75 rfl rfl ?_
        rw [him] at hq
        refine hq I' L ⟨?_, ?_, ⟨(gk 4 (by decide)).trans b1, b2, fun h cs hh => MHS_fr (b3 h cs hh) (fun b h1 h2 => gb b (by omega) (by omega) (by omega))⟩, ⟨m5, by rw [h73]; exact j5⟩, M1, ?_, ?_, ⟨?_, g2⟩, ?_⟩ (fun b hb => ⟨gb b (by omega) (by omega) (by omega), rfl⟩)
        · exact MH_fr a1 (gk 0 (by decide)) (gk 1 (by decide)) (gb 74 (by decide) (by decide) (by decide)) (gb 75 (by decide) (by decide) (by decide))
        · exact MX_fr a2 (gk 6 (by decide)) (gb 76 (by decide) (by decide) (by decide))
        · exact ⟨by rw [h86 1 (by omega)]; exact m3.1, m3.2.1, fun i hi => by
            have := m3.2.1
            show I' 85 (12 + i) = _ ∧ _
            rw [h85 (12 + i) (by omega)]; exact m3.2.2 i hi⟩
        · exact MIMG_fr f (gk 35 (by decide)) (gk 36 (by decide)) (gb 99 (by decide) (by decide) (by decide)) (gb 100 (by decide) (by decide) (by decide))
        · exact MTR_fr g1 (gk 39 (by decide)) (gb 101 (by decide) (by decide) (by decide))
        · exact MTP_fr kk (gb 102 (by decide) (by decide) (by decide)) (gb 103 (by decide) (by decide) (by decide)) rfl
      | succ j ih =>
        intro k I' hk h85 h86 hI
        have e100 : I' 100 k = I 100 k := by rw [hI 100 (by decide) (by decide), jb 100 (by decide)]
        refine x_ildn qX12_undo_46 rfl ?_
        refine x_iconst (v := nI 2) qX12_undo_47 rfl ?_
        refine x_icmp_ge_nf (tgt := 69) qX12_undo_48 (by omega) (by omega) (by omega) (by omega) ?_
        refine x_aldn qX12_undo_51 rfl trivial ?_
        refine x_getR qX12_undo_52 fX12_77 rfl rfl ?_
        refine x_ildn qX12_undo_55 rfl ?_
        refine x_aldn qX12_undo_56 rfl trivial ?_
        refine x_getR qX12_undo_57 fX12_127 rfl rfl ?_
        refine x_ildn qX12_undo_60 rfl ?_
        refine x_ialde qX12_undo_61 dd_100 rfl (by omega) (by decide) e100 ?_
        refine x_iast qX12_undo_62 dd_86 rfl (by omega) (by decide) ?_
        refine x_iinc1 qX12_undo_63 (by decide) (cm_inc _) rfl ?_
        refine x_goto (tgt := 46) qX12_undo_66 (by omega) ?_
        refine ih (k + 1) _ (by omega) (fun i hi => by rw [rdB (by decide)]; exact h85 i hi) (fun i hi => ?_) (fun b h1 h2 => by rw [cm_u_ne h2]; exact hI b h1 h2)
        by_cases e : i = k
        · subst e; exact rdE
        · rw [rdK e]; exact h86 i (by omega)
    have loop1 : ∀ j k I', k + j = 24 → (∀ i, i < k → I' 85 i = I 99 i) → (∀ b, b ≠ 85 → I' b = J b) → cm_Ex l g 1 0 0 mX12_undo 20 [.ref 73, .int (nI k)] [] I' L (RR u hr tl) (DD u) Q := by
      intro j
      induction j with
      | zero =>
        intro k I' hk h85 hI
        refine x_ildn qX12_undo_20 rfl ?_
        refine x_bipush (v := nI 24) qX12_undo_21 rfl ?_
        refine x_icmp_ge_nt (tgt := 44) qX12_undo_23 (by omega) (by omega) (by omega) (by omega) ?_
        refine x_iconst (v := nI 0) qX12_undo_44 rfl ?_
        refine x_ist1 qX12_undo_45 (by decide) rfl ?_
        exact loop2 2 0 I' (by omega) (fun i hi => h85 i (by omega)) (fun i hi => absurd hi (by omega)) (fun b h1 _ => hI b h1)
      | succ j ih =>
        intro k I' hk h85 hI
        have e99 : I' 99 k = I 99 k := by rw [hI 99 (by decide), jb 99 (by decide)]
        refine x_ildn qX12_undo_20 rfl ?_
        refine x_bipush (v := nI 24) qX12_undo_21 rfl ?_
        refine x_icmp_ge_nf (tgt := 44) qX12_undo_23 (by omega) (by omega) (by omega) (by omega) ?_
        refine x_aldn qX12_undo_26 rfl trivial ?_
        refine x_getR qX12_undo_27 fX12_74 rfl rfl ?_
        refine x_ildn qX12_undo_30 rfl ?_
        refine x_aldn qX12_undo_31 rfl trivial ?_
        refine x_getR qX12_undo_32 fX12_124 rfl rfl ?_
        refine x_ildn qX12_undo_35 rfl ?_
        refine x_ialde qX12_undo_36 dd_99 rfl (by omega) (by decide) e99 ?_
        refine x_iast qX12_undo_37 dd_85 rfl (by omega) (by decide) ?_
        refine x_iinc1 qX12_undo_38 (by decide) (cm_inc _) rfl ?_
        refine x_goto (tgt := 20) qX12_undo_41 (by omega) ?_
        refine ih (k + 1) _ (by omega) (fun i hi => ?_) (fun b h1 => by rw [cm_u_ne h1]; exact hI b h1)
        by_cases e : i = k
        · subst e; exact rdE
        · rw [rdK e]; exact h85 i (by omega)
    exact loop1 24 0 J (by omega) (fun i hi => absurd hi (by omega)) (fun b h1 => rfl)
end M10
