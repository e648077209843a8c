/-! the reference: of, follows, feed, reading, clear -/
theorem MX_add {m : Nat} {f : Nat → Nat} {v : Int32} {I : cm_I} (T : MX m f I) (hm : m < 100) (hv : v = sbI (f m)) (hf : f m < 256) : MX (m + 1) f (cm_u (cm_u I 76 m v) 73 6 (nI (m + 1))) := by
  obtain ⟨a, b, c⟩ := T
  refine ⟨rdE, by omega, fun p hp => ?_⟩
  rw [rdB (by decide)]
  by_cases e : p = m
  · subst e; rw [rdE]; exact ⟨hv, hf⟩
  · rw [rdK e]; exact c p (by omega)
section M8
variable {l : Launch} {g : cm_G} {I : cm_I} {L : cm_L} {hr tl : Option Nat} {Q : cm_Post} {u : Nat} {n : Nat} {kd mm : Nat → Nat} {len : Nat} {tx : Nat → Nat} {hs : List (List Cls)} {hx c1 : Nat} {w1 : Nat → Nat} {c2 : Nat} {w2 : Nat → Nat} {im : IM} {s : List Nat} {tp : TP}
theorem c_X12_of {t w : Int32} (M : MI n kd mm len tx hs hx c1 w1 c2 w2 im s tp I L) (hQ : KMQ Q (.int (ofA n kd mm (hcs hs hx) t w)) u hr tl (MI n kd mm len tx hs hx c1 w1 c2 w2 im s tp) I L) : cm_Ex l g 3 0 0 mX12_of 0 [.ref 73, .int t, .int w] [] I L (RR u hr tl) (DD u) Q := by
  have hq := hQ I L M KC_rfl
  have H := M.1
  have K := MI_HK M
  obtain ⟨h4, ho, hk, h64, h0, h1, hi⟩ := id H
  have e10 : (nI 10).toInt = 10 := by decide
  have e20 : (nI 20).toInt = 20 := by decide
  unfold ofA at hq
  refine x_aldn qX12_of_0 rfl trivial ?_
  refine x_ildn qX12_of_1 rfl ?_
  refine x_cV1 (d' := 2) qX12_of_2 cX12_153 rfl ⟨_, rfl, rfl⟩ rfl rfl (Nat.le_of_ble_eq_true rfl) (Nat.le_of_ble_eq_true rfl) (by decide) ?_
  refine c_X12_isThing H (fun hb => ?_) (fun hb => ?_)
  · rw [if_pos hb] at hq
    obtain ⟨et, lt⟩ := inB_ix hb
    generalize ix t = j at *
    subst et
    have hm := ho j lt
    have e9 := nI_toInt (n := 9 + mm j) (by omega)
    have e19 := nI_toInt (n := 19 + mm j) (by omega)
    refine x_if_ne_t (tgt := 10) qX12_of_5 (by omega) (by decide) ?_
    refine x_ildn qX12_of_10 rfl ?_
    refine x_if_ne (tgt := 21) qX12_of_11 (by omega) (fun hw0 => ?_) (fun hw0 => ?_)
    · rw [if_neg hw0] at hq
      refine x_ildn qX12_of_21 rfl ?_
      refine x_iconst (v := nI 1) qX12_of_22 rfl ?_
      refine x_icmp_ne (tgt := 33) qX12_of_23 (by omega) (fun hw1 => ?_) (fun hw1 => ?_)
      · rw [if_neg (by exact hw1)] at hq
        refine x_aldn qX12_of_33 rfl trivial ?_
        refine x_ildn qX12_of_34 rfl ?_
        refine x_bipush (v := nI 10) qX12_of_35 rfl ?_
        refine x_bipush (v := nI 9) qX12_of_37 rfl ?_
        refine x_aldn qX12_of_39 rfl trivial ?_
        refine x_getR qX12_of_40 fX12_20 rfl rfl ?_
        refine x_ildn qX12_of_43 rfl ?_
        refine x_ialde qX12_of_44 dd_75 rfl (by omega) (by decide) (hi j lt).2 ?_
        refine x_iadd_n qX12_of_45 ?_
        refine x_cV3 (d' := 1) qX12_of_46 cX12_149 rfl ⟨_, rfl, rfl⟩ rfl rfl (Nat.le_of_ble_eq_true rfl) (Nat.le_of_ble_eq_true rfl) (by decide) ?_
        refine c_X12_in (fun h => ?_) (fun h => ?_)
        · rw [e10, e9] at h
          rw [if_pos (by omega)] at hq
          have ew := nI_ix (x := w) (by omega)
          have hwl : ix w < 10 + mm j := by unfold ix; omega
          have hwg : 10 ≤ ix w := by unfold ix; omega
          generalize ix w = k at *
          subst ew
          refine x_if_eq_f (tgt := 66) qX12_of_49 (by omega) (by decide) ?_
          refine x_aldn qX12_of_52 rfl trivial ?_
          refine x_iconst (v := nI 0) qX12_of_53 rfl ?_
          refine x_iconst (v := nI 4) qX12_of_54 rfl ?_
          refine x_ildn qX12_of_55 rfl ?_
          refine x_imul_n qX12_of_56 ?_
          refine x_ildn qX12_of_57 rfl ?_
          refine x_iadd_n qX12_of_58 ?_
          refine x_bipush (v := nI 10) qX12_of_59 rfl ?_
          refine x_isub_n qX12_of_61 (by omega) ?_
          refine x_cV2 (d' := 2) qX12_of_62 cX12_217 rfl ⟨_, rfl, rfl⟩ rfl rfl (Nat.le_of_ble_eq_true rfl) (Nat.le_of_ble_eq_true rfl) (by decide) ?_
          rw [show 4 * j + k - 10 = 4 * j + (k - 10) by omega]
          refine c_X12_last K (Or.inl rfl) (by omega) ?_
          refine x_iret qX12_of_65 rfl rfl ?_
          exact hq
        · rw [e10, e9] at h
          rw [if_neg (by omega)] at hq
          refine x_if_eq_t (tgt := 66) qX12_of_49 (by omega) (by decide) ?_
          refine x_aldn qX12_of_66 rfl trivial ?_
          refine x_ildn qX12_of_67 rfl ?_
          refine x_bipush (v := nI 20) qX12_of_68 rfl ?_
          refine x_bipush (v := nI 19) qX12_of_70 rfl ?_
          refine x_aldn qX12_of_72 rfl trivial ?_
          refine x_getR qX12_of_73 fX12_20 rfl rfl ?_
          refine x_ildn qX12_of_76 rfl ?_
          refine x_ialde qX12_of_77 dd_75 rfl (by omega) (by decide) (hi j lt).2 ?_
          refine x_iadd_n qX12_of_78 ?_
          refine x_cV3 (d' := 1) qX12_of_79 cX12_149 rfl ⟨_, rfl, rfl⟩ rfl rfl (Nat.le_of_ble_eq_true rfl) (Nat.le_of_ble_eq_true rfl) (by decide) ?_
          refine c_X12_in (fun h => ?_) (fun h => ?_)
          · rw [e20, e19] at h
            rw [if_pos (by omega)] at hq
            have ew := nI_ix (x := w) (by omega)
            have hwl : ix w < 20 + mm j := by unfold ix; omega
            have hwg : 20 ≤ ix w := by unfold ix; omega
            generalize ix w = k at *
            subst ew
            refine x_if_eq_f (tgt := 101) qX12_of_82 (by omega) (by decide) ?_
            refine x_aldn qX12_of_85 rfl trivial ?_
            refine x_iconst (v := nI 1) qX12_of_86 rfl ?_
            refine x_iconst (v := nI 4) qX12_of_87 rfl ?_
            refine x_ildn qX12_of_88 rfl ?_
            refine x_imul_n qX12_of_89 ?_
            refine x_ildn qX12_of_90 rfl ?_
            refine x_iadd_n qX12_of_91 ?_
            refine x_bipush (v := nI 20) qX12_of_92 rfl ?_
            refine x_isub_n qX12_of_94 (by omega) ?_
            refine x_cV2 (d' := 2) qX12_of_95 cX12_217 rfl ⟨_, rfl, rfl⟩ rfl rfl (Nat.le_of_ble_eq_true rfl) (Nat.le_of_ble_eq_true rfl) (by decide) ?_
            rw [show 4 * j + k - 20 = 4 * j + (k - 20) by omega]
            refine c_X12_last K (Or.inr (Or.inl rfl)) (by omega) ?_
            refine x_goto (tgt := 102) qX12_of_98 (by omega) ?_
            refine x_iret qX12_of_102 rfl rfl ?_
            exact hq
          · rw [e20, e19] at h
            rw [if_neg (by omega)] at hq
            refine x_if_eq_t (tgt := 101) qX12_of_82 (by omega) (by decide) ?_
            refine x_iconst (v := -1) qX12_of_101 rfl ?_
            refine x_iret qX12_of_102 rfl rfl ?_
            exact hq
      · rw [if_pos (by exact hw1)] at hq
        refine x_aldn qX12_of_26 rfl trivial ?_
        refine x_getR qX12_of_27 fX12_20 rfl rfl ?_
        refine x_ildn qX12_of_30 rfl ?_
        refine x_ialde qX12_of_31 dd_75 rfl (by omega) (by decide) (hi j lt).2 ?_
        refine x_iret qX12_of_32 rfl rfl ?_
        exact hq
    · rw [if_pos hw0] at hq
      refine x_aldn qX12_of_14 rfl trivial ?_
      refine x_getR qX12_of_15 fX12_16 rfl rfl ?_
      refine x_ildn qX12_of_18 rfl ?_
      refine x_ialde qX12_of_19 dd_74 rfl (by omega) (by decide) (hi j lt).1 ?_
      refine x_iret qX12_of_20 rfl rfl ?_
      exact hq
  · rw [if_neg (by rw [hb]; decide)] at hq
    refine x_if_ne_f (tgt := 10) qX12_of_5 (by omega) (by decide) ?_
    refine x_iconst (v := -1) qX12_of_8 rfl ?_
    refine x_iret qX12_of_9 rfl rfl ?_
    exact hq
theorem c_X12_follows {t a b : Int32} (M : MI n kd mm len tx hs hx c1 w1 c2 w2 im s tp I L) (hQ : KMQ Q (.int (folA n kd mm t a b)) u hr tl (MI n kd mm len tx hs hx c1 w1 c2 w2 im s tp) I L) : cm_Ex l g 3 0 0 mX12_follows 0 [.ref 73, .int t, .int a, .int b] [] I L (RR u hr tl) (DD u) Q := by
  have hq := hQ I L M KC_rfl
  have H := M.1
  obtain ⟨h4, ho, hk, h64, h0, h1, hi⟩ := id H
  have z0 : (nI 0).toInt = 0 := by decide
  unfold folA at hq
  have no : ∀ {x y : Int32}, (inB x n && (inB a (mm (ix x)) && inB b (mm (ix x)))) = false → Q (some (.int (if (inB x n && (inB a (mm (ix x)) && inB b (mm (ix x)))) = true then y else -1))) I L (RR u hr tl) (DD u) → cm_Ex l g 3 0 0 mX12_follows 42 [.ref 73, .int t, .int a, .int b] [] I L (RR u hr tl) (DD u) Q := fun e hq => by
    rw [e, if_neg (by decide)] at hq
    refine x_iconst (v := -1) qX12_follows_42 rfl ?_
    refine x_iret qX12_follows_43 rfl rfl ?_
    exact hq
  have inn : ∀ {x : Int32} {k : Nat}, 1 ≤ k → k < 1000 → (((nI 0).toInt ≤ x.toInt ∧ x.toInt ≤ (nI (k - 1)).toInt) ↔ inB x k = true) := fun {x k} h1 h2 => by
    rw [z0, nI_toInt (by omega), inB_iff]; omega
  refine x_aldn qX12_follows_0 rfl trivial ?_
  refine x_ildn qX12_follows_1 rfl ?_
  refine x_cV1 (d' := 2) qX12_follows_2 cX12_153 rfl ⟨_, rfl, rfl⟩ rfl rfl (Nat.le_of_ble_eq_true rfl) (Nat.le_of_ble_eq_true rfl) (by decide) ?_
  refine c_X12_isThing H (fun hb => ?_) (fun hb => ?_)
  · obtain ⟨et, lt⟩ := inB_ix hb
    generalize ix t = j at *
    have hm := ho j lt
    refine x_if_eq_f (tgt := 42) qX12_follows_5 (by omega) (by decide) ?_
    refine x_aldn qX12_follows_8 rfl trivial ?_
    refine x_ildn qX12_follows_9 rfl ?_
    refine x_iconst (v := nI 0) qX12_follows_10 rfl ?_
    refine x_aldn qX12_follows_11 rfl trivial ?_
    refine x_getR qX12_follows_12 fX12_20 rfl rfl ?_
    refine x_ildn qX12_follows_15 rfl ?_
    refine x_topI et ?_
    refine x_ialde qX12_follows_16 dd_75 rfl (by omega) (by decide) (hi j lt).2 ?_
    refine x_iconst (v := nI 1) qX12_follows_17 rfl ?_
    refine x_isub_n qX12_follows_18 (by omega) ?_
    refine x_cV3 (d' := 1) qX12_follows_19 cX12_149 rfl ⟨_, rfl, rfl⟩ rfl rfl (Nat.le_of_ble_eq_true rfl) (Nat.le_of_ble_eq_true rfl) (by decide) ?_
    refine c_X12_in (fun h => ?_) (fun h => ?_)
    · have ha := (inn (by omega) (by omega)).mp h
      refine x_if_eq_f (tgt := 42) qX12_follows_22 (by omega) (by decide) ?_
      refine x_aldn qX12_follows_25 rfl trivial ?_
      refine x_ildn qX12_follows_26 rfl ?_
      refine x_iconst (v := nI 0) qX12_follows_27 rfl ?_
      refine x_aldn qX12_follows_28 rfl trivial ?_
      refine x_getR qX12_follows_29 fX12_20 rfl rfl ?_
      refine x_ildn qX12_follows_32 rfl ?_
      refine x_topI et ?_
      refine x_ialde qX12_follows_33 dd_75 rfl (by omega) (by decide) (hi j lt).2 ?_
      refine x_iconst (v := nI 1) qX12_follows_34 rfl ?_
      refine x_isub_n qX12_follows_35 (by omega) ?_
      refine x_cV3 (d' := 1) qX12_follows_36 cX12_149 rfl ⟨_, rfl, rfl⟩ rfl rfl (Nat.le_of_ble_eq_true rfl) (Nat.le_of_ble_eq_true rfl) (by decide) ?_
      refine c_X12_in (fun h => ?_) (fun h => ?_)
      · have hbb := (inn (by omega) (by omega)).mp h
        obtain ⟨ea, la⟩ := inB_ix ha
        obtain ⟨eb, lb⟩ := inB_ix hbb
        rw [hb, ha, hbb, if_pos (by decide)] at hq
        refine x_if_ne_t (tgt := 44) qX12_follows_39 (by omega) (by decide) ?_
        rw [et, ea, eb]
        refine x_aldn qX12_follows_44 rfl trivial ?_
        refine x_ildn qX12_follows_45 rfl ?_
        refine x_ildn qX12_follows_46 rfl ?_
        refine x_ildn qX12_follows_47 rfl ?_
        refine x_cV3 (d' := 1) qX12_follows_48 cX12_157 rfl ⟨_, rfl, rfl⟩ rfl rfl (Nat.le_of_ble_eq_true rfl) (Nat.le_of_ble_eq_true rfl) (by decide) ?_
        refine c_X12_isNext H lt la lb ?_
        unfold b2I
        cases hn : nx (kd j) (mm j) (ix a) (ix b) with
        | true =>
          rw [hn] at hq
          refine x_if_eq_f (tgt := 58) qX12_follows_51 (by omega) (by decide) ?_
          refine x_iconst (v := nI 1) qX12_follows_54 rfl ?_
          refine x_goto (tgt := 59) qX12_follows_55 (by omega) ?_
          refine x_iret qX12_follows_59 rfl rfl ?_
          exact hq
        | false =>
          rw [hn] at hq
          refine x_if_eq_t (tgt := 58) qX12_follows_51 (by omega) (by decide) ?_
          refine x_iconst (v := nI 0) qX12_follows_58 rfl ?_
          refine x_iret qX12_follows_59 rfl rfl ?_
          exact hq
      · have hbb : inB b (mm j) = false := by
          cases e : inB b (mm j) with
          | false => rfl
          | true => exact absurd ((inn (by omega) (by omega)).mpr e) h
        rw [hb, ha, hbb, if_neg (by decide)] at hq
        refine x_if_ne_f (tgt := 44) qX12_follows_39 (by omega) (by decide) ?_
        refine x_iconst (v := -1) qX12_follows_42 rfl ?_
        refine x_iret qX12_follows_43 rfl rfl ?_
        exact hq
    · have ha : inB a (mm j) = false := by
        cases e : inB a (mm j) with
        | false => rfl
        | true => exact absurd ((inn (by omega) (by omega)).mpr e) h
      rw [hb, ha, if_neg (by simp)] at hq
      refine x_if_eq_t (tgt := 42) qX12_follows_22 (by omega) (by decide) ?_
      refine x_iconst (v := -1) qX12_follows_42 rfl ?_
      refine x_iret qX12_follows_43 rfl rfl ?_
      exact hq
  · rw [hb, if_neg (by simp)] at hq
    refine x_if_eq_t (tgt := 42) qX12_follows_5 (by omega) (by decide) ?_
    refine x_iconst (v := -1) qX12_follows_42 rfl ?_
    refine x_iret qX12_follows_43 rfl rfl ?_
    exact hq
theorem MI_tx {I' : cm_I} {len' : Nat} {tx' : Nat → Nat} (M : MI n kd mm len tx hs hx c1 w1 c2 w2 im s tp I L) (T : MX len' tx' I') (hk : ∀ k, k ≠ 6 → I' 73 k = I 73 k) (hI : ∀ b, b ≠ 73 → b ≠ 76 → I' b = I b) : MI n kd mm len' tx' hs hx c1 w1 c2 w2 im s tp I' L := by
  obtain ⟨a1, a2, ⟨b1, b2, b3⟩, ⟨d1, d2⟩, e1, e2, f, ⟨g1, g2⟩, kk⟩ := M
  refine ⟨MH_fr a1 (hk 0 (by decide)) (hk 1 (by decide)) (hI 74 (by decide) (by decide)) (hI 75 (by decide) (by decide)), T, ⟨(hk 4 (by decide)).trans b1, b2, fun h cs hh => MHS_fr (b3 h cs hh) (fun b h1 h2 => hI b (by omega) (by omega))⟩, ⟨d1, (hk 5 (by decide)).trans d2⟩, ?_, ?_, ?_, ⟨?_, g2⟩, ?_⟩
  · exact MMT_fr e1 (by rw [hI 86 (by decide) (by decide)]) (hI 85 (by decide) (by decide))
  · exact MMT_fr e2 (by rw [hI 86 (by decide) (by decide)]) (hI 85 (by decide) (by decide))
  · exact MIMG_fr f (hk 35 (by decide)) (hk 36 (by decide)) (hI 99 (by decide) (by decide)) (hI 100 (by decide) (by decide))
  · exact MTR_fr g1 (hk 39 (by decide)) (hI 101 (by decide) (by decide))
  · exact MTP_fr kk (hI 102 (by decide) (by decide)) (hI 103 (by decide) (by decide)) rfl
theorem c_X12_feed {x k : Int32} (M : MI n kd mm len tx hs hx c1 w1 c2 w2 im s tp I L) (hok : fedC len k → KMQ Q (.int (nI (len + ix k))) u hr tl (MI n kd mm (len + ix k) (fdx tx len x (ix k)) hs hx c1 w1 c2 w2 im s tp) I L) (hno : ¬ fedC len k → KMQ Q (.int (fedA k)) u hr tl (MI n kd mm len tx hs hx c1 w1 c2 w2 im s tp) I L) : cm_Ex l g 2 0 0 mX12_feed 0 [.ref 73, .int x, .int k, .float 0] [] I L (RR u hr tl) (DD u) Q := by
  have T := M.2.1
  have hl := T.2.1
  have z0 : (nI 0).toInt = 0 := by decide
  have z4 : (nI 4).toInt = 4 := by decide
  refine x_aldn qX12_feed_0 rfl trivial ?_
  refine x_ildn qX12_feed_1 rfl ?_
  refine x_iconst (v := nI 0) qX12_feed_2 rfl ?_
  refine x_iconst (v := nI 4) qX12_feed_3 rfl ?_
  refine x_cV3 (d' := 1) qX12_feed_4 cX12_149 rfl ⟨_, rfl, rfl⟩ rfl rfl (Nat.le_of_ble_eq_true rfl) (Nat.le_of_ble_eq_true rfl) (by decide) ?_
  refine c_X12_in (fun h => ?_) (fun h => ?_)
  · rw [z0, z4] at h
    have ek := nI_ix (x := k) (by omega)
    have l4 : ix k ≤ 4 := by unfold ix; omega
    refine x_if_ne_t (tgt := 13) qX12_feed_7 (by omega) (by decide) ?_
    rw [ek]
    refine x_aldn qX12_feed_13 rfl trivial ?_
    refine x_getIe qX12_feed_14 fX12_29 rfl T.1 ?_
    refine x_ildn qX12_feed_17 rfl ?_
    refine x_iadd_n qX12_feed_18 ?_
    refine x_bipush (v := nI 100) qX12_feed_19 rfl ?_
    refine x_icmp_le_n (tgt := 27) qX12_feed_21 (by omega) (by omega) (by omega) (fun h21 => ?_) (fun h21 => ?_)
    · have hq := hok ⟨h, h21⟩
      generalize ix k = m at *
      have loop : ∀ j I', j ≤ m → MX (len + (m - j)) (fdx tx len x m) I' → (∀ k, k ≠ 6 → I' 73 k = I 73 k) → (∀ b, b ≠ 73 → b ≠ 76 → I' b = I b) → cm_Ex l g 2 0 0 mX12_feed 31 [.ref 73, .int x, .int (nI m), .int (nI j + Int32.ofInt (-1))] [] I' L (RR u hr tl) (DD u) Q := by
        intro j
        induction j with
        | zero =>
          intro I' hj T' hk hI
          rw [Nat.sub_zero] at T'
          refine x_ildn qX12_feed_31 rfl ?_
          refine x_if_lt_t (tgt := 67) qX12_feed_32 (by omega) (by decide) ?_
          refine x_aldn qX12_feed_67 rfl trivial ?_
          refine x_getIe qX12_feed_68 fX12_29 rfl T'.1 ?_
          refine x_iret qX12_feed_71 rfl rfl ?_
          exact hq I' L (MI_tx M T' hk hI) (fun b hb => ⟨hI b (by omega) (by omega), rfl⟩)
        | succ j ih =>
          intro I' hj T' hk hI
          rw [cm_dec]
          have e6 := T'.1
          refine x_ildn qX12_feed_31 rfl ?_
          refine x_if_lt_nf (tgt := 67) qX12_feed_32 (by omega) (by omega) ?_
          refine x_aldn qX12_feed_35 rfl trivial ?_
          refine x_getR qX12_feed_36 fX12_38 rfl rfl ?_
          refine x_aldn qX12_feed_39 rfl trivial ?_
          refine x_getIe qX12_feed_40 fX12_29 rfl e6 ?_
          refine x_ildn qX12_feed_43 rfl ?_
          refine x_bipush (v := nI 8) qX12_feed_44 rfl ?_
          refine x_ildn qX12_feed_46 rfl ?_
          refine x_imul_n qX12_feed_47 ?_
          refine x_ishr qX12_feed_48 ?_
          refine x_i2b qX12_feed_49 ?_
          refine x_topI (byte_sb (by omega)) ?_
          refine x_iast qX12_feed_50 dd_76 rfl (by omega) (by decide) ?_
          refine x_aldn qX12_feed_51 rfl trivial ?_
          refine x_dup qX12_feed_52 rfl ?_
          refine x_getIe qX12_feed_53 fX12_29 rfl (show _ = nI (len + (m - (j + 1))) from by rw [rdB (by decide)]; exact e6) ?_
          refine x_iconst (v := nI 1) qX12_feed_56 rfl ?_
          refine x_iadd_n qX12_feed_57 ?_
          refine x_putI qX12_feed_58 fX12_29 (Or.inl rfl) rfl ?_
          refine x_iinc3 qX12_feed_61 (by decide) rfl rfl ?_
          refine x_goto (tgt := 31) qX12_feed_64 (by omega) ?_
          have e : len + (m - j) = len + (m - (j + 1)) + 1 := by omega
          refine ih _ (by omega) ?_ (fun k hk2 => by rw [rdK hk2, rdB (by decide)]; exact hk k hk2) (fun b h1 h2 => by rw [cm_u_ne h1, cm_u_ne h2]; exact hI b h1 h2)
          rw [e]
          refine MX_add T' (by omega) ?_ ?_
          · unfold fdx; rw [if_neg (by omega)]
            congr 2; omega
          · unfold fdx; rw [if_neg (by omega)]; exact byt_lt _ _
      refine x_ildn qX12_feed_27 rfl ?_
      refine x_iconst (v := nI 1) qX12_feed_28 rfl ?_
      refine x_isub qX12_feed_29 ?_
      rw [sub1_dec]
      refine x_ist3 qX12_feed_30 (by decide) rfl ?_
      refine loop m I (Nat.le_refl _) ?_ (fun _ _ => rfl) (fun _ _ _ => rfl)
      rw [Nat.sub_self, Nat.add_zero]
      refine ⟨T.1, T.2.1, fun p hp => ?_⟩
      unfold fdx; rw [if_pos hp]; exact T.2.2 p hp
    · have hq := hno (fun e => by have := e.2; omega) I L M KC_rfl
      unfold fedA at hq
      rw [if_pos h] at hq
      refine x_bipush (v := -4) qX12_feed_24 rfl ?_
      refine x_iret qX12_feed_26 rfl rfl ?_
      exact hq
  · rw [z0, z4] at h
    have hq := hno (fun e => h e.1) I L M KC_rfl
    unfold fedA at hq
    rw [if_neg h] at hq
    refine x_if_ne_f (tgt := 13) qX12_feed_7 (by omega) (by decide) ?_
    refine x_bipush (v := -2) qX12_feed_10 rfl ?_
    refine x_iret qX12_feed_12 rfl rfl ?_
    exact hq
theorem MI_m {I' : cm_I} {c1' : Nat} {w1' : Nat → Nat} {c2' : Nat} {w2' : Nat → Nat} (M : MI n kd mm len tx hs hx c1 w1 c2 w2 im s tp I L) (h1 : MMT 0 0 c1' w1' 86 I') (h2 : MMT 1 12 c2' w2' 86 I') (hI : ∀ b, b ≠ 85 → b ≠ 86 → I' b = I b) : MI n kd mm len tx hs hx c1' w1' c2' w2' im s tp I' L := by
  obtain ⟨a1, a2, ⟨b1, b2, b3⟩, ⟨d1, d2⟩, e1, e2, f, ⟨g1, g2⟩, kk⟩ := M
  have h73 := hI 73 (by decide) (by decide)
  refine ⟨MH_fr a1 (by rw [h73]) (by rw [h73]) (hI 74 (by decide) (by decide)) (hI 75 (by decide) (by decide)), MX_fr a2 (by rw [h73]) (hI 76 (by decide) (by decide)), ⟨by rw [h73]; exact b1, b2, fun h cs hh => MHS_fr (b3 h cs hh) (fun b h1 h2 => hI b (by omega) (by omega))⟩, ⟨d1, by rw [h73]; exact d2⟩, h1, h2, ?_, ⟨?_, g2⟩, ?_⟩
  · exact MIMG_fr f (by rw [h73]) (by rw [h73]) (hI 99 (by decide) (by decide)) (hI 100 (by decide) (by decide))
  · exact MTR_fr g1 (by rw [h73]) (hI 101 (by decide) (by decide))
  · exact MTP_fr kk (hI 102 (by decide) (by decide)) (hI 103 (by decide) (by decide)) rfl
theorem i01 {m : Int32} : ((nI 0).toInt ≤ m.toInt ∧ m.toInt ≤ (nI 1).toInt) ↔ inB m 2 = true := by
  have z0 : (nI 0).toInt = 0 := by decide
  have z1 : (nI 1).toInt = 1 := by decide
  rw [z0, z1, inB_iff]; omega
theorem inF {x : Int32} {k : Nat} (h : ¬ inB x k = true) : inB x k = false := by
  cases e : inB x k with
  | false => rfl
  | true => exact absurd e h
theorem rdm {m : Nat} {x c : Nat} (hm : m < 2) (hx : x ≤ 9999) (h86 : I 86 m = nI c) (hc12 : c ≤ 12) (hful : c = 12 → Q (some (.int (-4))) I L (RR u hr tl) (DD u)) (hok : c < 12 → Q (some (.int (nI (c + 1)))) (cm_u (cm_u I 85 (12 * m + c) (nI x)) 86 m (nI (c + 1))) L (RR u hr tl) (DD u)) : cm_Ex l g 2 0 0 mX12_reading 27 [.ref 73, .int (nI m), .int (nI x)] [] I L (RR u hr tl) (DD u) Q := by
  refine x_aldn qX12_reading_27 rfl trivial ?_
  refine x_getR qX12_reading_28 fX12_77 rfl rfl ?_
  refine x_ildn qX12_reading_31 rfl ?_
  refine x_ialde qX12_reading_32 dd_86 rfl (by omega) (by decide) h86 ?_
  refine x_bipush (v := nI 12) qX12_reading_33 rfl ?_
  refine x_icmp_ne_n (tgt := 41) qX12_reading_35 (by omega) (by omega) (by omega) (fun h => ?_) (fun h => ?_)
  · have h' : cm_u I 85 (12 * m + c) (nI x) 86 m = nI c := by rw [rdB (by decide)]; exact h86
    refine x_aldn qX12_reading_41 rfl trivial ?_
    refine x_getR qX12_reading_42 fX12_74 rfl rfl ?_
    refine x_bipush (v := nI 12) qX12_reading_45 rfl ?_
    refine x_ildn qX12_reading_47 rfl ?_
    refine x_imul_n qX12_reading_48 ?_
    refine x_aldn qX12_reading_49 rfl trivial ?_
    refine x_getR qX12_reading_50 fX12_77 rfl rfl ?_
    refine x_ildn qX12_reading_53 rfl ?_
    refine x_ialde qX12_reading_54 dd_86 rfl (by omega) (by decide) h86 ?_
    refine x_iadd_n qX12_reading_55 ?_
    refine x_ildn qX12_reading_56 rfl ?_
    refine x_iast qX12_reading_57 dd_85 rfl (by omega) (by decide) ?_
    refine x_aldn qX12_reading_58 rfl trivial ?_
    refine x_getR qX12_reading_59 fX12_77 rfl rfl ?_
    refine x_ildn qX12_reading_62 rfl ?_
    refine x_dup2 qX12_reading_63 rfl rfl ?_
    refine x_ialde qX12_reading_64 dd_86 rfl (by omega) (by decide) h' ?_
    refine x_iconst (v := nI 1) qX12_reading_65 rfl ?_
    refine x_iadd_n qX12_reading_66 ?_
    refine x_iast qX12_reading_67 dd_86 rfl (by omega) (by decide) ?_
    refine x_aldn qX12_reading_68 rfl trivial ?_
    refine x_getR qX12_reading_69 fX12_77 rfl rfl ?_
    refine x_ildn qX12_reading_72 rfl ?_
    refine x_ialde qX12_reading_73 dd_86 rfl (by omega) (by decide) rdE ?_
    refine x_iret qX12_reading_74 rfl rfl ?_
    exact hok (by omega)
  · refine x_bipush (v := -4) qX12_reading_38 rfl ?_
    refine x_iret qX12_reading_40 rfl rfl ?_
    exact hful h
theorem c_X12_reading {m x : Int32} (M : MI n kd mm len tx hs hx c1 w1 c2 w2 im s tp I L) (h1 : rdgC c1 m x → ix m = 0 → KMQ Q (.int (nI (c1 + 1))) u hr tl (MI n kd mm len tx hs hx (c1 + 1) (fup w1 c1 (ix x)) c2 w2 im s tp) I L) (h2 : rdgC c2 m x → ix m = 1 → KMQ Q (.int (nI (c2 + 1))) u hr tl (MI n kd mm len tx hs hx c1 w1 (c2 + 1) (fup w2 c2 (ix x)) im s tp) I L) (hno : ¬ rdgC (if ix m = 0 then c1 else c2) m x → KMQ Q (.int (rdgA m x)) u hr tl (MI n kd mm len tx hs hx c1 w1 c2 w2 im s tp) I L) : cm_Ex l g 2 0 0 mX12_reading 0 [.ref 73, .int m, .int x] [] I L (RR u hr tl) (DD u) Q := by
  obtain ⟨-, -, -, -, e1, e2, -⟩ := id M
  have z0 : (nI 0).toInt = 0 := by decide
  have z9 : (nI 9999).toInt = 9999 := by decide
  refine x_aldn qX12_reading_0 rfl trivial ?_
  refine x_ildn qX12_reading_1 rfl ?_
  refine x_iconst (v := nI 0) qX12_reading_2 rfl ?_
  refine x_iconst (v := nI 1) qX12_reading_3 rfl ?_
  refine x_cV3 (d' := 1) qX12_reading_4 cX12_149 rfl ⟨_, rfl, rfl⟩ rfl rfl (Nat.le_of_ble_eq_true rfl) (Nat.le_of_ble_eq_true rfl) (by decide) ?_
  refine c_X12_in (fun h => ?_) (fun h => ?_)
  · have hm := i01.mp h
    obtain ⟨em, lm⟩ := inB_ix hm
    refine x_if_ne_t (tgt := 12) qX12_reading_7 (by omega) (by decide) ?_
    refine x_aldn qX12_reading_12 rfl trivial ?_
    refine x_ildn qX12_reading_13 rfl ?_
    refine x_iconst (v := nI 0) qX12_reading_14 rfl ?_
    refine x_sipush (v := nI 9999) qX12_reading_15 rfl ?_
    refine x_cV3 (d' := 1) qX12_reading_18 cX12_149 rfl ⟨_, rfl, rfl⟩ rfl rfl (Nat.le_of_ble_eq_true rfl) (Nat.le_of_ble_eq_true rfl) (by decide) ?_
    refine c_X12_in (fun hx => ?_) (fun hx => ?_)
    · rw [z0, z9] at hx
      have ex := nI_ix (x := x) (by omega)
      have lx : ix x ≤ 9999 := by unfold ix; omega
      have full : rdgA m x = -4 := by unfold rdgA; rw [if_pos hm, if_pos hx]
      refine x_if_ne_t (tgt := 27) qX12_reading_21 (by omega) (by decide) ?_
      have st : cm_Ex l g 2 0 0 mX12_reading 27 [.ref 73, .int (nI (ix m)), .int (nI (ix x))] [] I L (RR u hr tl) (DD u) Q := by
        by_cases e0 : ix m = 0
        · rw [if_pos e0] at hno
          rw [e0]
          refine rdm (by decide) lx e1.1 e1.2.1 (fun e => ?_) (fun e => ?_)
          · have hq := hno (fun q => by have := q.2.2; omega) I L M KC_rfl
            rw [full] at hq; exact hq
          · refine h1 ⟨hm, hx, e⟩ e0 _ L (MI_m M ⟨rdE, by omega, fun i hi => ?_⟩ ⟨?_, e2.2.1, fun i hi => ?_⟩ (fun b h1 h2 => by rw [cm_u_ne h2, cm_u_ne h1])) (fun b hb => ⟨by rw [cm_u_ne (by omega), cm_u_ne (by omega)], rfl⟩)
            · show cm_u (cm_u I 85 (12 * 0 + c1) (nI (ix x))) 86 0 (nI (c1 + 1)) 85 (0 + i) = _ ∧ _
              rw [rdB (by decide)]
              unfold fup
              by_cases e : i = c1
              · subst e
                rw [if_pos rfl, show 12 * 0 + i = 0 + i by omega, rdE]
                exact ⟨rfl, lx⟩
              · rw [if_neg e, rdK (by omega)]; exact e1.2.2 i (by omega)
            · rw [rdK (by decide), rdB (by decide)]; exact e2.1
            · show cm_u (cm_u I 85 (12 * 0 + c1) (nI (ix x))) 86 0 (nI (c1 + 1)) 85 (12 + i) = _ ∧ _
              rw [rdB (by decide), rdK (by omega)]; exact e2.2.2 i hi
        · have e1' : ix m = 1 := by omega
          rw [if_neg e0] at hno
          rw [e1']
          refine rdm (by decide) lx e2.1 e2.2.1 (fun e => ?_) (fun e => ?_)
          · have hq := hno (fun q => by have := q.2.2; omega) I L M KC_rfl
            rw [full] at hq; exact hq
          · have l1 := e1.2.1
            refine h2 ⟨hm, hx, e⟩ e1' _ L (MI_m M ⟨?_, e1.2.1, fun i hi => ?_⟩ ⟨rdE, by omega, fun i hi => ?_⟩ (fun b h1 h2 => by rw [cm_u_ne h2, cm_u_ne h1])) (fun b hb => ⟨by rw [cm_u_ne (by omega), cm_u_ne (by omega)], rfl⟩)
            · rw [rdK (by decide), rdB (by decide)]; exact e1.1
            · show cm_u (cm_u I 85 (12 * 1 + c2) (nI (ix x))) 86 1 (nI (c2 + 1)) 85 (0 + i) = _ ∧ _
              rw [rdB (by decide), rdK (by omega)]; exact e1.2.2 i hi
            · show cm_u (cm_u I 85 (12 * 1 + c2) (nI (ix x))) 86 1 (nI (c2 + 1)) 85 (12 + i) = _ ∧ _
              rw [rdB (by decide)]
              unfold fup
              by_cases e : i = c2
              · subst e
                rw [if_pos rfl, show 12 * 1 + i = 12 + i by omega, rdE]
                exact ⟨rfl, lx⟩
              · rw [if_neg e, rdK (by omega)]; exact e2.2.2 i (by omega)
      rw [← em, ← ex] at st
      exact st
    · rw [z0, z9] at hx
      have hq := hno (fun q => hx q.2.1) I L M KC_rfl
      unfold rdgA at hq
      rw [if_pos hm, if_neg hx] at hq
      refine x_if_ne_f (tgt := 27) qX12_reading_21 (by omega) (by decide) ?_
      refine x_bipush (v := -2) qX12_reading_24 rfl ?_
      refine x_iret qX12_reading_26 rfl rfl ?_
      exact hq
  · have hm : ¬ inB m 2 = true := fun e => h (i01.mpr e)
    have hq := hno (fun q => hm q.1) I L M KC_rfl
    unfold rdgA at hq
    rw [if_neg hm] at hq
    refine x_if_ne_f (tgt := 12) qX12_reading_7 (by omega) (by decide) ?_
    refine x_iconst (v := -1) qX12_reading_10 rfl ?_
    refine x_iret qX12_reading_11 rfl rfl ?_
    exact hq
theorem c_X12_clear {m : Int32} (M : MI n kd mm len tx hs hx c1 w1 c2 w2 im s tp I L) (h1 : inB m 2 = true → ix m = 0 → KMQ Q (.int (nI c1)) u hr tl (MI n kd mm len tx hs hx 0 w1 c2 w2 im s tp) I L) (h2 : inB m 2 = true → ix m = 1 → KMQ Q (.int (nI c2)) u hr tl (MI n kd mm len tx hs hx c1 w1 0 w2 im s tp) I L) (hno : inB m 2 = false → KMQ Q (.int (-1)) u hr tl (MI n kd mm len tx hs hx c1 w1 c2 w2 im s tp) I L) : cm_Ex l g 2 0 0 mX12_clear 0 [.ref 73, .int m, .float 0] [] I L (RR u hr tl) (DD u) Q := by
  obtain ⟨-, -, -, -, e1, e2, -⟩ := id M
  refine x_aldn qX12_clear_0 rfl trivial ?_
  refine x_ildn qX12_clear_1 rfl ?_
  refine x_iconst (v := nI 0) qX12_clear_2 rfl ?_
  refine x_iconst (v := nI 1) qX12_clear_3 rfl ?_
  refine x_cV3 (d' := 1) qX12_clear_4 cX12_149 rfl ⟨_, rfl, rfl⟩ rfl rfl (Nat.le_of_ble_eq_true rfl) (Nat.le_of_ble_eq_true rfl) (by decide) ?_
  refine c_X12_in (fun h => ?_) (fun h => ?_)
  · have hm := i01.mp h
    obtain ⟨em, lm⟩ := inB_ix hm
    refine x_if_ne_t (tgt := 12) qX12_clear_7 (by omega) (by decide) ?_
    rw [em]
    by_cases e0 : ix m = 0
    · rw [e0]
      refine x_aldn qX12_clear_12 rfl trivial ?_
      refine x_getR qX12_clear_13 fX12_77 rfl rfl ?_
      refine x_ildn qX12_clear_16 rfl ?_
      refine x_ialde qX12_clear_17 dd_86 rfl (by omega) (by decide) e1.1 ?_
      refine x_ist2 qX12_clear_18 (by decide) rfl ?_
      refine x_aldn qX12_clear_19 rfl trivial ?_
      refine x_getR qX12_clear_20 fX12_77 rfl rfl ?_
      refine x_ildn qX12_clear_23 rfl ?_
      refine x_iconst (v := nI 0) qX12_clear_24 rfl ?_
      refine x_iast qX12_clear_25 dd_86 rfl (by omega) (by decide) ?_
      refine x_ildn qX12_clear_26 rfl ?_
      refine x_iret qX12_clear_27 rfl rfl ?_
      refine h1 hm e0 _ L (MI_m M ⟨rdE, by decide, fun i hi => absurd hi (by omega)⟩ ⟨?_, e2.2.1, fun i hi => ?_⟩ (fun b h1 h2 => by rw [cm_u_ne h2])) (fun b hb => ⟨by rw [cm_u_ne (by omega)], rfl⟩)
      · rw [rdK (by decide)]; exact e2.1
      · show cm_u I 86 0 (nI 0) 85 (12 + i) = _ ∧ _
        rw [rdB (by decide)]; exact e2.2.2 i hi
    · have e1' : ix m = 1 := by omega
      rw [e1']
      refine x_aldn qX12_clear_12 rfl trivial ?_
      refine x_getR qX12_clear_13 fX12_77 rfl rfl ?_
      refine x_ildn qX12_clear_16 rfl ?_
      refine x_ialde qX12_clear_17 dd_86 rfl (by omega) (by decide) e2.1 ?_
      refine x_ist2 qX12_clear_18 (by decide) rfl ?_
      refine x_aldn qX12_clear_19 rfl trivial ?_
      refine x_getR qX12_clear_20 fX12_77 rfl rfl ?_
      refine x_ildn qX12_clear_23 rfl ?_
      refine x_iconst (v := nI 0) qX12_clear_24 rfl ?_
      refine x_iast qX12_clear_25 dd_86 rfl (by omega) (by decide) ?_
      refine x_ildn qX12_clear_26 rfl ?_
      refine x_iret qX12_clear_27 rfl rfl ?_
      refine h2 hm e1' _ L (MI_m M ⟨?_, e1.2.1, fun i hi => ?_⟩ ⟨rdE, by decide, fun i hi => absurd hi (by omega)⟩ (fun b h1 h2 => by rw [cm_u_ne h2])) (fun b hb => ⟨by rw [cm_u_ne (by omega)], rfl⟩)
      · rw [rdK (by decide)]; exact e1.1
      · show cm_u I 86 1 (nI 0) 85 (0 + i) = _ ∧ _
        rw [rdB (by decide)]; exact e1.2.2 i hi
  · have hm : inB m 2 = false := inF (fun e => h (i01.mpr e))
    refine x_if_ne_f (tgt := 12) qX12_clear_7 (by omega) (by decide) ?_
    refine x_iconst (v := -1) qX12_clear_10 rfl ?_
    refine x_iret qX12_clear_11 rfl rfl ?_
    exact hno hm I L M KC_rfl
end M8
